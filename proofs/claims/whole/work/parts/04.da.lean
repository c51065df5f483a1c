theorem dX2_init_0 : decode cX2_init 0 = .ok (.aload_n 0, 1) := by decide +kernel
theorem dX2_init_1 : decode cX2_init 1 = .ok (.invokespecial 3, 3) := by decide +kernel
theorem dX2_init_4 : decode cX2_init 4 = .ok (.aload_n 0, 1) := by decide +kernel
theorem dX2_init_5 : decode cX2_init 5 = .ok (.bipush 10, 2) := by decide +kernel
theorem dX2_init_7 : decode cX2_init 7 = .ok (.newarray .long, 2) := by decide +kernel
theorem dX2_init_9 : decode cX2_init 9 = .ok (.putfield 9, 3) := by decide +kernel
theorem dX2_init_12 : decode cX2_init 12 = .ok (.return_, 1) := by decide +kernel
theorem dX2_drawWord_0 : decode cX2_drawWord 0 = .ok (.aload_n 0, 1) := by decide +kernel
theorem dX2_drawWord_1 : decode cX2_drawWord 1 = .ok (.invokevirtual 15, 3) := by decide +kernel
theorem dX2_drawWord_4 : decode cX2_drawWord 4 = .ok (.iconst 0, 1) := by decide +kernel
theorem dX2_drawWord_5 : decode cX2_drawWord 5 = .ok (.istore_n 2, 1) := by decide +kernel
theorem dX2_drawWord_6 : decode cX2_drawWord 6 = .ok (.iload_n 2, 1) := by decide +kernel
theorem dX2_drawWord_7 : decode cX2_drawWord 7 = .ok (.aload_n 1, 1) := by decide +kernel
theorem dX2_drawWord_8 : decode cX2_drawWord 8 = .ok (.getfield 18, 3) := by decide +kernel
theorem dX2_drawWord_11 : decode cX2_drawWord 11 = .ok (.if_icmp .ge 19, 3) := by decide +kernel
theorem dX2_drawWord_14 : decode cX2_drawWord 14 = .ok (.aload_n 0, 1) := by decide +kernel
theorem dX2_drawWord_15 : decode cX2_drawWord 15 = .ok (.aload_n 1, 1) := by decide +kernel
theorem dX2_drawWord_16 : decode cX2_drawWord 16 = .ok (.getfield 24, 3) := by decide +kernel
theorem dX2_drawWord_19 : decode cX2_drawWord 19 = .ok (.iload_n 2, 1) := by decide +kernel
theorem dX2_drawWord_20 : decode cX2_drawWord 20 = .ok (.iaload, 1) := by decide +kernel
theorem dX2_drawWord_21 : decode cX2_drawWord 21 = .ok (.invokevirtual 28, 3) := by decide +kernel
theorem dX2_drawWord_24 : decode cX2_drawWord 24 = .ok (.iinc 2 1, 3) := by decide +kernel
theorem dX2_drawWord_27 : decode cX2_drawWord 27 = .ok (.goto (-21), 3) := by decide +kernel
theorem dX2_drawWord_30 : decode cX2_drawWord 30 = .ok (.return_, 1) := by decide +kernel
theorem dX2_drawQuotient_0 : decode cX2_drawQuotient 0 = .ok (.aload_n 0, 1) := by decide +kernel
theorem dX2_drawQuotient_1 : decode cX2_drawQuotient 1 = .ok (.invokevirtual 15, 3) := by decide +kernel
theorem dX2_drawQuotient_4 : decode cX2_drawQuotient 4 = .ok (.aload_n 1, 1) := by decide +kernel
theorem dX2_drawQuotient_5 : decode cX2_drawQuotient 5 = .ok (.getfield 18, 3) := by decide +kernel
theorem dX2_drawQuotient_8 : decode cX2_drawQuotient 8 = .ok (.iconst 1, 1) := by decide +kernel
theorem dX2_drawQuotient_9 : decode cX2_drawQuotient 9 = .ok (.isub, 1) := by decide +kernel
theorem dX2_drawQuotient_10 : decode cX2_drawQuotient 10 = .ok (.istore_n 3, 1) := by decide +kernel
theorem dX2_drawQuotient_11 : decode cX2_drawQuotient 11 = .ok (.iload_n 3, 1) := by decide +kernel
theorem dX2_drawQuotient_12 : decode cX2_drawQuotient 12 = .ok (.ifCond .lt 20, 3) := by decide +kernel
theorem dX2_drawQuotient_15 : decode cX2_drawQuotient 15 = .ok (.aload_n 0, 1) := by decide +kernel
theorem dX2_drawQuotient_16 : decode cX2_drawQuotient 16 = .ok (.aload_n 1, 1) := by decide +kernel
theorem dX2_drawQuotient_17 : decode cX2_drawQuotient 17 = .ok (.getfield 24, 3) := by decide +kernel
theorem dX2_drawQuotient_20 : decode cX2_drawQuotient 20 = .ok (.iload_n 3, 1) := by decide +kernel
theorem dX2_drawQuotient_21 : decode cX2_drawQuotient 21 = .ok (.iaload, 1) := by decide +kernel
theorem dX2_drawQuotient_22 : decode cX2_drawQuotient 22 = .ok (.ineg, 1) := by decide +kernel
theorem dX2_drawQuotient_23 : decode cX2_drawQuotient 23 = .ok (.invokevirtual 28, 3) := by decide +kernel
theorem dX2_drawQuotient_26 : decode cX2_drawQuotient 26 = .ok (.iinc 3 (-1), 3) := by decide +kernel
theorem dX2_drawQuotient_29 : decode cX2_drawQuotient 29 = .ok (.goto (-18), 3) := by decide +kernel
theorem dX2_drawQuotient_32 : decode cX2_drawQuotient 32 = .ok (.iconst 0, 1) := by decide +kernel
theorem dX2_drawQuotient_33 : decode cX2_drawQuotient 33 = .ok (.istore_n 3, 1) := by decide +kernel
theorem dX2_drawQuotient_34 : decode cX2_drawQuotient 34 = .ok (.iload_n 3, 1) := by decide +kernel
theorem dX2_drawQuotient_35 : decode cX2_drawQuotient 35 = .ok (.aload_n 2, 1) := by decide +kernel
theorem dX2_drawQuotient_36 : decode cX2_drawQuotient 36 = .ok (.getfield 18, 3) := by decide +kernel
theorem dX2_drawQuotient_39 : decode cX2_drawQuotient 39 = .ok (.if_icmp .ge 19, 3) := by decide +kernel
theorem dX2_drawQuotient_42 : decode cX2_drawQuotient 42 = .ok (.aload_n 0, 1) := by decide +kernel
theorem dX2_drawQuotient_43 : decode cX2_drawQuotient 43 = .ok (.aload_n 2, 1) := by decide +kernel
theorem dX2_drawQuotient_44 : decode cX2_drawQuotient 44 = .ok (.getfield 24, 3) := by decide +kernel
theorem dX2_drawQuotient_47 : decode cX2_drawQuotient 47 = .ok (.iload_n 3, 1) := by decide +kernel
theorem dX2_drawQuotient_48 : decode cX2_drawQuotient 48 = .ok (.iaload, 1) := by decide +kernel
theorem dX2_drawQuotient_49 : decode cX2_drawQuotient 49 = .ok (.invokevirtual 28, 3) := by decide +kernel
theorem dX2_drawQuotient_52 : decode cX2_drawQuotient 52 = .ok (.iinc 3 1, 3) := by decide +kernel
theorem dX2_drawQuotient_55 : decode cX2_drawQuotient 55 = .ok (.goto (-21), 3) := by decide +kernel
theorem dX2_drawQuotient_58 : decode cX2_drawQuotient 58 = .ok (.return_, 1) := by decide +kernel
theorem dX2_signOfFirst_0 : decode cX2_signOfFirst 0 = .ok (.iconst 0, 1) := by decide +kernel
theorem dX2_signOfFirst_1 : decode cX2_signOfFirst 1 = .ok (.istore_n 1, 1) := by decide +kernel
theorem dX2_signOfFirst_2 : decode cX2_signOfFirst 2 = .ok (.iload_n 1, 1) := by decide +kernel
theorem dX2_signOfFirst_3 : decode cX2_signOfFirst 3 = .ok (.bipush 10, 2) := by decide +kernel
theorem dX2_signOfFirst_5 : decode cX2_signOfFirst 5 = .ok (.if_icmp .ge 30, 3) := by decide +kernel
theorem dX2_signOfFirst_8 : decode cX2_signOfFirst 8 = .ok (.aload_n 0, 1) := by decide +kernel
theorem dX2_signOfFirst_9 : decode cX2_signOfFirst 9 = .ok (.getfield 9, 3) := by decide +kernel
theorem dX2_signOfFirst_12 : decode cX2_signOfFirst 12 = .ok (.iload_n 1, 1) := by decide +kernel
theorem dX2_signOfFirst_13 : decode cX2_signOfFirst 13 = .ok (.laload, 1) := by decide +kernel
theorem dX2_signOfFirst_14 : decode cX2_signOfFirst 14 = .ok (.lconst 0, 1) := by decide +kernel
theorem dX2_signOfFirst_15 : decode cX2_signOfFirst 15 = .ok (.lcmp, 1) := by decide +kernel
theorem dX2_signOfFirst_16 : decode cX2_signOfFirst 16 = .ok (.ifCond .eq 13, 3) := by decide +kernel
theorem dX2_signOfFirst_19 : decode cX2_signOfFirst 19 = .ok (.aload_n 0, 1) := by decide +kernel
theorem dX2_signOfFirst_20 : decode cX2_signOfFirst 20 = .ok (.getfield 9, 3) := by decide +kernel
theorem dX2_signOfFirst_23 : decode cX2_signOfFirst 23 = .ok (.iload_n 1, 1) := by decide +kernel
theorem dX2_signOfFirst_24 : decode cX2_signOfFirst 24 = .ok (.laload, 1) := by decide +kernel
theorem dX2_signOfFirst_25 : decode cX2_signOfFirst 25 = .ok (.invokestatic 32, 3) := by decide +kernel
theorem dX2_signOfFirst_28 : decode cX2_signOfFirst 28 = .ok (.ireturn, 1) := by decide +kernel
theorem dX2_signOfFirst_29 : decode cX2_signOfFirst 29 = .ok (.iinc 1 2, 3) := by decide +kernel
theorem dX2_signOfFirst_32 : decode cX2_signOfFirst 32 = .ok (.goto (-30), 3) := by decide +kernel
theorem dX2_signOfFirst_35 : decode cX2_signOfFirst 35 = .ok (.iconst 0, 1) := by decide +kernel
theorem dX2_signOfFirst_36 : decode cX2_signOfFirst 36 = .ok (.ireturn, 1) := by decide +kernel
theorem dX2_isSameAs_0 : decode cX2_isSameAs 0 = .ok (.iconst 0, 1) := by decide +kernel
theorem dX2_isSameAs_1 : decode cX2_isSameAs 1 = .ok (.istore_n 2, 1) := by decide +kernel
theorem dX2_isSameAs_2 : decode cX2_isSameAs 2 = .ok (.iload_n 2, 1) := by decide +kernel
theorem dX2_isSameAs_3 : decode cX2_isSameAs 3 = .ok (.bipush 10, 2) := by decide +kernel
theorem dX2_isSameAs_5 : decode cX2_isSameAs 5 = .ok (.if_icmp .ge 27, 3) := by decide +kernel
theorem dX2_isSameAs_8 : decode cX2_isSameAs 8 = .ok (.aload_n 0, 1) := by decide +kernel
theorem dX2_isSameAs_9 : decode cX2_isSameAs 9 = .ok (.getfield 9, 3) := by decide +kernel
theorem dX2_isSameAs_12 : decode cX2_isSameAs 12 = .ok (.iload_n 2, 1) := by decide +kernel
theorem dX2_isSameAs_13 : decode cX2_isSameAs 13 = .ok (.laload, 1) := by decide +kernel
theorem dX2_isSameAs_14 : decode cX2_isSameAs 14 = .ok (.aload_n 1, 1) := by decide +kernel
theorem dX2_isSameAs_15 : decode cX2_isSameAs 15 = .ok (.getfield 9, 3) := by decide +kernel
theorem dX2_isSameAs_18 : decode cX2_isSameAs 18 = .ok (.iload_n 2, 1) := by decide +kernel
theorem dX2_isSameAs_19 : decode cX2_isSameAs 19 = .ok (.laload, 1) := by decide +kernel
theorem dX2_isSameAs_20 : decode cX2_isSameAs 20 = .ok (.lcmp, 1) := by decide +kernel
theorem dX2_isSameAs_21 : decode cX2_isSameAs 21 = .ok (.ifCond .eq 5, 3) := by decide +kernel
theorem dX2_isSameAs_24 : decode cX2_isSameAs 24 = .ok (.iconst 0, 1) := by decide +kernel
theorem dX2_isSameAs_25 : decode cX2_isSameAs 25 = .ok (.ireturn, 1) := by decide +kernel
theorem dX2_isSameAs_26 : decode cX2_isSameAs 26 = .ok (.iinc 2 1, 3) := by decide +kernel
theorem dX2_isSameAs_29 : decode cX2_isSameAs 29 = .ok (.goto (-27), 3) := by decide +kernel
theorem dX2_isSameAs_32 : decode cX2_isSameAs 32 = .ok (.iconst 1, 1) := by decide +kernel
theorem dX2_isSameAs_33 : decode cX2_isSameAs 33 = .ok (.ireturn, 1) := by decide +kernel
theorem dX2_straighten_0 : decode cX2_straighten 0 = .ok (.iconst 0, 1) := by decide +kernel
theorem dX2_straighten_1 : decode cX2_straighten 1 = .ok (.istore_n 1, 1) := by decide +kernel
theorem dX2_straighten_2 : decode cX2_straighten 2 = .ok (.iload_n 1, 1) := by decide +kernel
theorem dX2_straighten_3 : decode cX2_straighten 3 = .ok (.bipush 10, 2) := by decide +kernel
theorem dX2_straighten_5 : decode cX2_straighten 5 = .ok (.if_icmp .ge 19, 3) := by decide +kernel
theorem dX2_straighten_8 : decode cX2_straighten 8 = .ok (.aload_n 0, 1) := by decide +kernel
theorem dX2_straighten_9 : decode cX2_straighten 9 = .ok (.getfield 9, 3) := by decide +kernel
theorem dX2_straighten_12 : decode cX2_straighten 12 = .ok (.iload_n 1, 1) := by decide +kernel
theorem dX2_straighten_13 : decode cX2_straighten 13 = .ok (.iload_n 1, 1) := by decide +kernel
theorem dX2_straighten_14 : decode cX2_straighten 14 = .ok (.iconst 2, 1) := by decide +kernel
theorem dX2_straighten_15 : decode cX2_straighten 15 = .ok (.irem, 1) := by decide +kernel
theorem dX2_straighten_16 : decode cX2_straighten 16 = .ok (.i2l, 1) := by decide +kernel
theorem dX2_straighten_17 : decode cX2_straighten 17 = .ok (.lastore, 1) := by decide +kernel
theorem dX2_straighten_18 : decode cX2_straighten 18 = .ok (.iinc 1 1, 3) := by decide +kernel
theorem dX2_straighten_21 : decode cX2_straighten 21 = .ok (.goto (-19), 3) := by decide +kernel
theorem dX2_straighten_24 : decode cX2_straighten 24 = .ok (.return_, 1) := by decide +kernel
theorem dX2_follow_0 : decode cX2_follow 0 = .ok (.iconst 2, 1) := by decide +kernel
theorem dX2_follow_1 : decode cX2_follow 1 = .ok (.iload_n 1, 1) := by decide +kernel
theorem dX2_follow_2 : decode cX2_follow 2 = .ok (.invokestatic 36, 3) := by decide +kernel
theorem dX2_follow_5 : decode cX2_follow 5 = .ok (.iconst 1, 1) := by decide +kernel
theorem dX2_follow_6 : decode cX2_follow 6 = .ok (.isub, 1) := by decide +kernel
theorem dX2_follow_7 : decode cX2_follow 7 = .ok (.imul, 1) := by decide +kernel
theorem dX2_follow_8 : decode cX2_follow 8 = .ok (.istore_n 2, 1) := by decide +kernel
theorem dX2_follow_9 : decode cX2_follow 9 = .ok (.iload_n 2, 1) := by decide +kernel
theorem dX2_follow_10 : decode cX2_follow 10 = .ok (.ifCond .lt 11, 3) := by decide +kernel
theorem dX2_follow_13 : decode cX2_follow 13 = .ok (.iload_n 2, 1) := by decide +kernel
theorem dX2_follow_14 : decode cX2_follow 14 = .ok (.iconst 3, 1) := by decide +kernel
theorem dX2_follow_15 : decode cX2_follow 15 = .ok (.iadd, 1) := by decide +kernel
theorem dX2_follow_16 : decode cX2_follow 16 = .ok (.bipush 10, 2) := by decide +kernel
theorem dX2_follow_18 : decode cX2_follow 18 = .ok (.if_icmp .lt 4, 3) := by decide +kernel
theorem dX2_follow_21 : decode cX2_follow 21 = .ok (.return_, 1) := by decide +kernel
theorem dX2_follow_22 : decode cX2_follow 22 = .ok (.iload_n 1, 1) := by decide +kernel
theorem dX2_follow_23 : decode cX2_follow 23 = .ok (.i2l, 1) := by decide +kernel
theorem dX2_follow_24 : decode cX2_follow 24 = .ok (.invokestatic 32, 3) := by decide +kernel
theorem dX2_follow_27 : decode cX2_follow 27 = .ok (.istore_n 3, 1) := by decide +kernel
theorem dX2_follow_28 : decode cX2_follow 28 = .ok (.iload_n 3, 1) := by decide +kernel
theorem dX2_follow_29 : decode cX2_follow 29 = .ok (.i2l, 1) := by decide +kernel
theorem dX2_follow_30 : decode cX2_follow 30 = .ok (.aload_n 0, 1) := by decide +kernel
theorem dX2_follow_31 : decode cX2_follow 31 = .ok (.getfield 9, 3) := by decide +kernel
theorem dX2_follow_34 : decode cX2_follow 34 = .ok (.iload_n 2, 1) := by decide +kernel
theorem dX2_follow_35 : decode cX2_follow 35 = .ok (.laload, 1) := by decide +kernel
theorem dX2_follow_36 : decode cX2_follow 36 = .ok (.lmul, 1) := by decide +kernel
theorem dX2_follow_37 : decode cX2_follow 37 = .ok (.lstore 4, 2) := by decide +kernel
theorem dX2_follow_39 : decode cX2_follow 39 = .ok (.aload_n 0, 1) := by decide +kernel
theorem dX2_follow_40 : decode cX2_follow 40 = .ok (.getfield 9, 3) := by decide +kernel
theorem dX2_follow_43 : decode cX2_follow 43 = .ok (.iload_n 2, 1) := by decide +kernel
theorem dX2_follow_44 : decode cX2_follow 44 = .ok (.iconst 1, 1) := by decide +kernel
theorem dX2_follow_45 : decode cX2_follow 45 = .ok (.iadd, 1) := by decide +kernel
theorem dX2_follow_46 : decode cX2_follow 46 = .ok (.laload, 1) := by decide +kernel
theorem dX2_follow_47 : decode cX2_follow 47 = .ok (.lstore 6, 2) := by decide +kernel
theorem dX2_follow_49 : decode cX2_follow 49 = .ok (.iload_n 3, 1) := by decide +kernel
theorem dX2_follow_50 : decode cX2_follow 50 = .ok (.i2l, 1) := by decide +kernel
theorem dX2_follow_51 : decode cX2_follow 51 = .ok (.aload_n 0, 1) := by decide +kernel
theorem dX2_follow_52 : decode cX2_follow 52 = .ok (.getfield 9, 3) := by decide +kernel
theorem dX2_follow_55 : decode cX2_follow 55 = .ok (.iload_n 2, 1) := by decide +kernel
theorem dX2_follow_56 : decode cX2_follow 56 = .ok (.iconst 2, 1) := by decide +kernel
theorem dX2_follow_57 : decode cX2_follow 57 = .ok (.iadd, 1) := by decide +kernel
theorem dX2_follow_58 : decode cX2_follow 58 = .ok (.laload, 1) := by decide +kernel
theorem dX2_follow_59 : decode cX2_follow 59 = .ok (.lmul, 1) := by decide +kernel
theorem dX2_follow_60 : decode cX2_follow 60 = .ok (.lstore 8, 2) := by decide +kernel
theorem dX2_follow_62 : decode cX2_follow 62 = .ok (.aload_n 0, 1) := by decide +kernel
theorem dX2_follow_63 : decode cX2_follow 63 = .ok (.getfield 9, 3) := by decide +kernel
theorem dX2_follow_66 : decode cX2_follow 66 = .ok (.iload_n 2, 1) := by decide +kernel
theorem dX2_follow_67 : decode cX2_follow 67 = .ok (.iconst 3, 1) := by decide +kernel
theorem dX2_follow_68 : decode cX2_follow 68 = .ok (.iadd, 1) := by decide +kernel
theorem dX2_follow_69 : decode cX2_follow 69 = .ok (.laload, 1) := by decide +kernel
theorem dX2_follow_70 : decode cX2_follow 70 = .ok (.lstore 10, 2) := by decide +kernel
theorem dX2_follow_72 : decode cX2_follow 72 = .ok (.lload 4, 2) := by decide +kernel
theorem dX2_follow_74 : decode cX2_follow 74 = .ok (.lload 6, 2) := by decide +kernel
theorem dX2_follow_76 : decode cX2_follow 76 = .ok (.lconst 0, 1) := by decide +kernel
theorem dX2_follow_77 : decode cX2_follow 77 = .ok (.invokestatic 40, 3) := by decide +kernel
theorem dX2_follow_80 : decode cX2_follow 80 = .ok (.lsub, 1) := by decide +kernel
theorem dX2_follow_81 : decode cX2_follow 81 = .ok (.lload 8, 2) := by decide +kernel
theorem dX2_follow_83 : decode cX2_follow 83 = .ok (.lsub, 1) := by decide +kernel
theorem dX2_follow_84 : decode cX2_follow 84 = .ok (.lload 10, 2) := by decide +kernel
theorem dX2_follow_86 : decode cX2_follow 86 = .ok (.lconst 0, 1) := by decide +kernel
theorem dX2_follow_87 : decode cX2_follow 87 = .ok (.invokestatic 46, 3) := by decide +kernel
theorem dX2_follow_90 : decode cX2_follow 90 = .ok (.ladd, 1) := by decide +kernel
theorem dX2_follow_91 : decode cX2_follow 91 = .ok (.lstore 12, 2) := by decide +kernel
theorem dX2_follow_93 : decode cX2_follow 93 = .ok (.lload 4, 2) := by decide +kernel
theorem dX2_follow_95 : decode cX2_follow 95 = .ok (.lload 6, 2) := by decide +kernel
theorem dX2_follow_97 : decode cX2_follow 97 = .ok (.lconst 0, 1) := by decide +kernel
theorem dX2_follow_98 : decode cX2_follow 98 = .ok (.invokestatic 46, 3) := by decide +kernel
theorem dX2_follow_101 : decode cX2_follow 101 = .ok (.lload 10, 2) := by decide +kernel
theorem dX2_follow_103 : decode cX2_follow 103 = .ok (.lconst 0, 1) := by decide +kernel
theorem dX2_follow_104 : decode cX2_follow 104 = .ok (.invokestatic 46, 3) := by decide +kernel
theorem dX2_follow_107 : decode cX2_follow 107 = .ok (.lload 12, 2) := by decide +kernel
theorem dX2_follow_109 : decode cX2_follow 109 = .ok (.lsub, 1) := by decide +kernel
theorem dX2_follow_110 : decode cX2_follow 110 = .ok (.lconst 0, 1) := by decide +kernel
theorem dX2_follow_111 : decode cX2_follow 111 = .ok (.invokestatic 46, 3) := by decide +kernel
theorem dX2_follow_114 : decode cX2_follow 114 = .ok (.ladd, 1) := by decide +kernel
theorem dX2_follow_115 : decode cX2_follow 115 = .ok (.ladd, 1) := by decide +kernel
theorem dX2_follow_116 : decode cX2_follow 116 = .ok (.lstore 4, 2) := by decide +kernel
theorem dX2_follow_118 : decode cX2_follow 118 = .ok (.lload 8, 2) := by decide +kernel
theorem dX2_follow_120 : decode cX2_follow 120 = .ok (.lload 10, 2) := by decide +kernel
theorem dX2_follow_122 : decode cX2_follow 122 = .ok (.lconst 0, 1) := by decide +kernel
theorem dX2_follow_123 : decode cX2_follow 123 = .ok (.invokestatic 40, 3) := by decide +kernel
theorem dX2_follow_126 : decode cX2_follow 126 = .ok (.lload 6, 2) := by decide +kernel
theorem dX2_follow_128 : decode cX2_follow 128 = .ok (.lconst 0, 1) := by decide +kernel
theorem dX2_follow_129 : decode cX2_follow 129 = .ok (.invokestatic 40, 3) := by decide +kernel
theorem dX2_follow_132 : decode cX2_follow 132 = .ok (.lload 12, 2) := by decide +kernel
theorem dX2_follow_134 : decode cX2_follow 134 = .ok (.ladd, 1) := by decide +kernel
theorem dX2_follow_135 : decode cX2_follow 135 = .ok (.lconst 0, 1) := by decide +kernel
theorem dX2_follow_136 : decode cX2_follow 136 = .ok (.invokestatic 40, 3) := by decide +kernel
theorem dX2_follow_139 : decode cX2_follow 139 = .ok (.ladd, 1) := by decide +kernel
theorem dX2_follow_140 : decode cX2_follow 140 = .ok (.ladd, 1) := by decide +kernel
theorem dX2_follow_141 : decode cX2_follow 141 = .ok (.lstore 8, 2) := by decide +kernel
theorem dX2_follow_143 : decode cX2_follow 143 = .ok (.aload_n 0, 1) := by decide +kernel
theorem dX2_follow_144 : decode cX2_follow 144 = .ok (.getfield 9, 3) := by decide +kernel
theorem dX2_follow_147 : decode cX2_follow 147 = .ok (.iload_n 2, 1) := by decide +kernel
theorem dX2_follow_148 : decode cX2_follow 148 = .ok (.iload_n 3, 1) := by decide +kernel
theorem dX2_follow_149 : decode cX2_follow 149 = .ok (.i2l, 1) := by decide +kernel
theorem dX2_follow_150 : decode cX2_follow 150 = .ok (.lload 4, 2) := by decide +kernel
theorem dX2_follow_152 : decode cX2_follow 152 = .ok (.lmul, 1) := by decide +kernel
theorem dX2_follow_153 : decode cX2_follow 153 = .ok (.lastore, 1) := by decide +kernel
theorem dX2_follow_154 : decode cX2_follow 154 = .ok (.aload_n 0, 1) := by decide +kernel
theorem dX2_follow_155 : decode cX2_follow 155 = .ok (.getfield 9, 3) := by decide +kernel
theorem dX2_follow_158 : decode cX2_follow 158 = .ok (.iload_n 2, 1) := by decide +kernel
theorem dX2_follow_159 : decode cX2_follow 159 = .ok (.iconst 1, 1) := by decide +kernel
theorem dX2_follow_160 : decode cX2_follow 160 = .ok (.iadd, 1) := by decide +kernel
theorem dX2_follow_161 : decode cX2_follow 161 = .ok (.lload 10, 2) := by decide +kernel
theorem dX2_follow_163 : decode cX2_follow 163 = .ok (.lload 12, 2) := by decide +kernel
theorem dX2_follow_165 : decode cX2_follow 165 = .ok (.lconst 0, 1) := by decide +kernel
theorem dX2_follow_166 : decode cX2_follow 166 = .ok (.invokestatic 46, 3) := by decide +kernel
theorem dX2_follow_169 : decode cX2_follow 169 = .ok (.lsub, 1) := by decide +kernel
theorem dX2_follow_170 : decode cX2_follow 170 = .ok (.lastore, 1) := by decide +kernel
theorem dX2_follow_171 : decode cX2_follow 171 = .ok (.aload_n 0, 1) := by decide +kernel
theorem dX2_follow_172 : decode cX2_follow 172 = .ok (.getfield 9, 3) := by decide +kernel
theorem dX2_follow_175 : decode cX2_follow 175 = .ok (.iload_n 2, 1) := by decide +kernel
theorem dX2_follow_176 : decode cX2_follow 176 = .ok (.iconst 2, 1) := by decide +kernel
theorem dX2_follow_177 : decode cX2_follow 177 = .ok (.iadd, 1) := by decide +kernel
theorem dX2_follow_178 : decode cX2_follow 178 = .ok (.iload_n 3, 1) := by decide +kernel
theorem dX2_follow_179 : decode cX2_follow 179 = .ok (.i2l, 1) := by decide +kernel
theorem dX2_follow_180 : decode cX2_follow 180 = .ok (.lload 8, 2) := by decide +kernel
theorem dX2_follow_182 : decode cX2_follow 182 = .ok (.lmul, 1) := by decide +kernel
theorem dX2_follow_183 : decode cX2_follow 183 = .ok (.lastore, 1) := by decide +kernel
theorem dX2_follow_184 : decode cX2_follow 184 = .ok (.aload_n 0, 1) := by decide +kernel
theorem dX2_follow_185 : decode cX2_follow 185 = .ok (.getfield 9, 3) := by decide +kernel
theorem dX2_follow_188 : decode cX2_follow 188 = .ok (.iload_n 2, 1) := by decide +kernel
theorem dX2_follow_189 : decode cX2_follow 189 = .ok (.iconst 3, 1) := by decide +kernel
theorem dX2_follow_190 : decode cX2_follow 190 = .ok (.iadd, 1) := by decide +kernel
theorem dX2_follow_191 : decode cX2_follow 191 = .ok (.lload 6, 2) := by decide +kernel
theorem dX2_follow_193 : decode cX2_follow 193 = .ok (.lload 12, 2) := by decide +kernel
theorem dX2_follow_195 : decode cX2_follow 195 = .ok (.lconst 0, 1) := by decide +kernel
theorem dX2_follow_196 : decode cX2_follow 196 = .ok (.invokestatic 46, 3) := by decide +kernel
theorem dX2_follow_199 : decode cX2_follow 199 = .ok (.ladd, 1) := by decide +kernel
theorem dX2_follow_200 : decode cX2_follow 200 = .ok (.lastore, 1) := by decide +kernel
theorem dX2_follow_201 : decode cX2_follow 201 = .ok (.return_, 1) := by decide +kernel
theorem dX3_init_0 : decode cX3_init 0 = .ok (.aload_n 0, 1) := by decide +kernel
theorem dX3_init_1 : decode cX3_init 1 = .ok (.invokespecial 3, 3) := by decide +kernel
theorem dX3_init_4 : decode cX3_init 4 = .ok (.aload_n 0, 1) := by decide +kernel
theorem dX3_init_5 : decode cX3_init 5 = .ok (.bipush 8, 2) := by decide +kernel
theorem dX3_init_7 : decode cX3_init 7 = .ok (.anewarray 9, 3) := by decide +kernel
theorem dX3_init_10 : decode cX3_init 10 = .ok (.putfield 11, 3) := by decide +kernel
theorem dX3_init_13 : decode cX3_init 13 = .ok (.aload_n 0, 1) := by decide +kernel
theorem dX3_init_14 : decode cX3_init 14 = .ok (.bipush 8, 2) := by decide +kernel
theorem dX3_init_16 : decode cX3_init 16 = .ok (.newarray .int, 2) := by decide +kernel
theorem dX3_init_18 : decode cX3_init 18 = .ok (.putfield 17, 3) := by decide +kernel
theorem dX3_init_21 : decode cX3_init 21 = .ok (.aload_n 0, 1) := by decide +kernel
theorem dX3_init_22 : decode cX3_init 22 = .ok (.bipush 8, 2) := by decide +kernel
theorem dX3_init_24 : decode cX3_init 24 = .ok (.newarray .int, 2) := by decide +kernel
theorem dX3_init_26 : decode cX3_init 26 = .ok (.putfield 21, 3) := by decide +kernel
theorem dX3_init_29 : decode cX3_init 29 = .ok (.aload_n 0, 1) := by decide +kernel
theorem dX3_init_30 : decode cX3_init 30 = .ok (.bipush 8, 2) := by decide +kernel
theorem dX3_init_32 : decode cX3_init 32 = .ok (.newarray .boolean, 2) := by decide +kernel
theorem dX3_init_34 : decode cX3_init 34 = .ok (.putfield 24, 3) := by decide +kernel
theorem dX3_init_37 : decode cX3_init 37 = .ok (.aload_n 0, 1) := by decide +kernel
theorem dX3_init_38 : decode cX3_init 38 = .ok (.bipush 8, 2) := by decide +kernel
theorem dX3_init_40 : decode cX3_init 40 = .ok (.newarray .boolean, 2) := by decide +kernel
theorem dX3_init_42 : decode cX3_init 42 = .ok (.putfield 28, 3) := by decide +kernel
theorem dX3_init_45 : decode cX3_init 45 = .ok (.aload_n 0, 1) := by decide +kernel
theorem dX3_init_46 : decode cX3_init 46 = .ok (.iconst 0, 1) := by decide +kernel
theorem dX3_init_47 : decode cX3_init 47 = .ok (.putfield 31, 3) := by decide +kernel
theorem dX3_init_50 : decode cX3_init 50 = .ok (.aload_n 0, 1) := by decide +kernel
theorem dX3_init_51 : decode cX3_init 51 = .ok (.iconst 0, 1) := by decide +kernel
theorem dX3_init_52 : decode cX3_init 52 = .ok (.putfield 35, 3) := by decide +kernel
theorem dX3_init_55 : decode cX3_init 55 = .ok (.iconst 0, 1) := by decide +kernel
theorem dX3_init_56 : decode cX3_init 56 = .ok (.istore_n 1, 1) := by decide +kernel
theorem dX3_init_57 : decode cX3_init 57 = .ok (.iload_n 1, 1) := by decide +kernel
theorem dX3_init_58 : decode cX3_init 58 = .ok (.bipush 8, 2) := by decide +kernel
theorem dX3_init_60 : decode cX3_init 60 = .ok (.if_icmp .ge 29, 3) := by decide +kernel
theorem dX3_init_63 : decode cX3_init 63 = .ok (.aload_n 0, 1) := by decide +kernel
theorem dX3_init_64 : decode cX3_init 64 = .ok (.getfield 11, 3) := by decide +kernel
theorem dX3_init_67 : decode cX3_init 67 = .ok (.iload_n 1, 1) := by decide +kernel
theorem dX3_init_68 : decode cX3_init 68 = .ok (.new 9, 3) := by decide +kernel
theorem dX3_init_71 : decode cX3_init 71 = .ok (.dup, 1) := by decide +kernel
theorem dX3_init_72 : decode cX3_init 72 = .ok (.invokespecial 38, 3) := by decide +kernel
theorem dX3_init_75 : decode cX3_init 75 = .ok (.aastore, 1) := by decide +kernel
theorem dX3_init_76 : decode cX3_init 76 = .ok (.aload_n 0, 1) := by decide +kernel
theorem dX3_init_77 : decode cX3_init 77 = .ok (.getfield 17, 3) := by decide +kernel
theorem dX3_init_80 : decode cX3_init 80 = .ok (.iload_n 1, 1) := by decide +kernel
theorem dX3_init_81 : decode cX3_init 81 = .ok (.iconst (-1), 1) := by decide +kernel
theorem dX3_init_82 : decode cX3_init 82 = .ok (.iastore, 1) := by decide +kernel
theorem dX3_init_83 : decode cX3_init 83 = .ok (.iinc 1 1, 3) := by decide +kernel
theorem dX3_init_86 : decode cX3_init 86 = .ok (.goto (-29), 3) := by decide +kernel
theorem dX3_init_89 : decode cX3_init 89 = .ok (.return_, 1) := by decide +kernel
theorem dX3_hasCase_0 : decode cX3_hasCase 0 = .ok (.iload_n 1, 1) := by decide +kernel
theorem dX3_hasCase_1 : decode cX3_hasCase 1 = .ok (.ifCond .lt 15, 3) := by decide +kernel
theorem dX3_hasCase_4 : decode cX3_hasCase 4 = .ok (.iload_n 1, 1) := by decide +kernel
theorem dX3_hasCase_5 : decode cX3_hasCase 5 = .ok (.aload_n 0, 1) := by decide +kernel
theorem dX3_hasCase_6 : decode cX3_hasCase 6 = .ok (.getfield 31, 3) := by decide +kernel
theorem dX3_hasCase_9 : decode cX3_hasCase 9 = .ok (.if_icmp .ge 7, 3) := by decide +kernel
theorem dX3_hasCase_12 : decode cX3_hasCase 12 = .ok (.iconst 1, 1) := by decide +kernel
theorem dX3_hasCase_13 : decode cX3_hasCase 13 = .ok (.goto 4, 3) := by decide +kernel
theorem dX3_hasCase_16 : decode cX3_hasCase 16 = .ok (.iconst 0, 1) := by decide +kernel
theorem dX3_hasCase_17 : decode cX3_hasCase 17 = .ok (.ireturn, 1) := by decide +kernel
theorem dX3_isFull_0 : decode cX3_isFull 0 = .ok (.aload_n 0, 1) := by decide +kernel
theorem dX3_isFull_1 : decode cX3_isFull 1 = .ok (.getfield 31, 3) := by decide +kernel
theorem dX3_isFull_4 : decode cX3_isFull 4 = .ok (.bipush 8, 2) := by decide +kernel
theorem dX3_isFull_6 : decode cX3_isFull 6 = .ok (.if_icmp .lt 7, 3) := by decide +kernel
theorem dX3_isFull_9 : decode cX3_isFull 9 = .ok (.iconst 1, 1) := by decide +kernel
theorem dX3_isFull_10 : decode cX3_isFull 10 = .ok (.goto 4, 3) := by decide +kernel
theorem dX3_isFull_13 : decode cX3_isFull 13 = .ok (.iconst 0, 1) := by decide +kernel
theorem dX3_isFull_14 : decode cX3_isFull 14 = .ok (.ireturn, 1) := by decide +kernel
theorem dX3_hasVerdict_0 : decode cX3_hasVerdict 0 = .ok (.aload_n 0, 1) := by decide +kernel
theorem dX3_hasVerdict_1 : decode cX3_hasVerdict 1 = .ok (.getfield 17, 3) := by decide +kernel
theorem dX3_hasVerdict_4 : decode cX3_hasVerdict 4 = .ok (.iload_n 1, 1) := by decide +kernel
theorem dX3_hasVerdict_5 : decode cX3_hasVerdict 5 = .ok (.iaload, 1) := by decide +kernel
theorem dX3_hasVerdict_6 : decode cX3_hasVerdict 6 = .ok (.iconst (-1), 1) := by decide +kernel
theorem dX3_hasVerdict_7 : decode cX3_hasVerdict 7 = .ok (.if_icmp .eq 7, 3) := by decide +kernel
theorem dX3_hasVerdict_10 : decode cX3_hasVerdict 10 = .ok (.iconst 1, 1) := by decide +kernel
theorem dX3_hasVerdict_11 : decode cX3_hasVerdict 11 = .ok (.goto 4, 3) := by decide +kernel
theorem dX3_hasVerdict_14 : decode cX3_hasVerdict 14 = .ok (.iconst 0, 1) := by decide +kernel
theorem dX3_hasVerdict_15 : decode cX3_hasVerdict 15 = .ok (.ireturn, 1) := by decide +kernel
theorem dX3_hasVerdictTangled_0 : decode cX3_hasVerdictTangled 0 = .ok (.aload_n 0, 1) := by decide +kernel
theorem dX3_hasVerdictTangled_1 : decode cX3_hasVerdictTangled 1 = .ok (.iload_n 1, 1) := by decide +kernel
theorem dX3_hasVerdictTangled_2 : decode cX3_hasVerdictTangled 2 = .ok (.invokevirtual 39, 3) := by decide +kernel
theorem dX3_hasVerdictTangled_5 : decode cX3_hasVerdictTangled 5 = .ok (.ifCond .eq 21, 3) := by decide +kernel
theorem dX3_hasVerdictTangled_8 : decode cX3_hasVerdictTangled 8 = .ok (.aload_n 0, 1) := by decide +kernel
theorem dX3_hasVerdictTangled_9 : decode cX3_hasVerdictTangled 9 = .ok (.getfield 24, 3) := by decide +kernel
theorem dX3_hasVerdictTangled_12 : decode cX3_hasVerdictTangled 12 = .ok (.aload_n 0, 1) := by decide +kernel
theorem dX3_hasVerdictTangled_13 : decode cX3_hasVerdictTangled 13 = .ok (.getfield 17, 3) := by decide +kernel
theorem dX3_hasVerdictTangled_16 : decode cX3_hasVerdictTangled 16 = .ok (.iload_n 1, 1) := by decide +kernel
theorem dX3_hasVerdictTangled_17 : decode cX3_hasVerdictTangled 17 = .ok (.iaload, 1) := by decide +kernel
theorem dX3_hasVerdictTangled_18 : decode cX3_hasVerdictTangled 18 = .ok (.baload, 1) := by decide +kernel
theorem dX3_hasVerdictTangled_19 : decode cX3_hasVerdictTangled 19 = .ok (.ifCond .eq 7, 3) := by decide +kernel
theorem dX3_hasVerdictTangled_22 : decode cX3_hasVerdictTangled 22 = .ok (.iconst 1, 1) := by decide +kernel
theorem dX3_hasVerdictTangled_23 : decode cX3_hasVerdictTangled 23 = .ok (.goto 4, 3) := by decide +kernel
theorem dX3_hasVerdictTangled_26 : decode cX3_hasVerdictTangled 26 = .ok (.iconst 0, 1) := by decide +kernel
theorem dX3_hasVerdictTangled_27 : decode cX3_hasVerdictTangled 27 = .ok (.ireturn, 1) := by decide +kernel
theorem dX3_addCase_0 : decode cX3_addCase 0 = .ok (.aload_n 0, 1) := by decide +kernel
theorem dX3_addCase_1 : decode cX3_addCase 1 = .ok (.invokevirtual 43, 3) := by decide +kernel
theorem dX3_addCase_4 : decode cX3_addCase 4 = .ok (.ifCond .eq 5, 3) := by decide +kernel
theorem dX3_addCase_7 : decode cX3_addCase 7 = .ok (.iconst (-1), 1) := by decide +kernel
theorem dX3_addCase_8 : decode cX3_addCase 8 = .ok (.ireturn, 1) := by decide +kernel
theorem dX3_addCase_9 : decode cX3_addCase 9 = .ok (.aload_n 0, 1) := by decide +kernel
theorem dX3_addCase_10 : decode cX3_addCase 10 = .ok (.getfield 31, 3) := by decide +kernel
theorem dX3_addCase_13 : decode cX3_addCase 13 = .ok (.istore_n 1, 1) := by decide +kernel
theorem dX3_addCase_14 : decode cX3_addCase 14 = .ok (.aload_n 0, 1) := by decide +kernel
theorem dX3_addCase_15 : decode cX3_addCase 15 = .ok (.getfield 11, 3) := by decide +kernel
theorem dX3_addCase_18 : decode cX3_addCase 18 = .ok (.iload_n 1, 1) := by decide +kernel
theorem dX3_addCase_19 : decode cX3_addCase 19 = .ok (.aaload, 1) := by decide +kernel
theorem dX3_addCase_20 : decode cX3_addCase 20 = .ok (.iconst 0, 1) := by decide +kernel
theorem dX3_addCase_21 : decode cX3_addCase 21 = .ok (.putfield 47, 3) := by decide +kernel
theorem dX3_addCase_24 : decode cX3_addCase 24 = .ok (.aload_n 0, 1) := by decide +kernel
theorem dX3_addCase_25 : decode cX3_addCase 25 = .ok (.getfield 17, 3) := by decide +kernel
theorem dX3_addCase_28 : decode cX3_addCase 28 = .ok (.iload_n 1, 1) := by decide +kernel
theorem dX3_addCase_29 : decode cX3_addCase 29 = .ok (.iconst (-1), 1) := by decide +kernel
theorem dX3_addCase_30 : decode cX3_addCase 30 = .ok (.iastore, 1) := by decide +kernel
theorem dX3_addCase_31 : decode cX3_addCase 31 = .ok (.aload_n 0, 1) := by decide +kernel
theorem dX3_addCase_32 : decode cX3_addCase 32 = .ok (.dup, 1) := by decide +kernel
theorem dX3_addCase_33 : decode cX3_addCase 33 = .ok (.getfield 31, 3) := by decide +kernel
theorem dX3_addCase_36 : decode cX3_addCase 36 = .ok (.iconst 1, 1) := by decide +kernel
theorem dX3_addCase_37 : decode cX3_addCase 37 = .ok (.iadd, 1) := by decide +kernel
theorem dX3_addCase_38 : decode cX3_addCase 38 = .ok (.putfield 31, 3) := by decide +kernel
theorem dX3_addCase_41 : decode cX3_addCase 41 = .ok (.iload_n 1, 1) := by decide +kernel
theorem dX3_addCase_42 : decode cX3_addCase 42 = .ok (.ireturn, 1) := by decide +kernel
theorem dX3_addPrecedent_0 : decode cX3_addPrecedent 0 = .ok (.aload_n 0, 1) := by decide +kernel
theorem dX3_addPrecedent_1 : decode cX3_addPrecedent 1 = .ok (.getfield 35, 3) := by decide +kernel
theorem dX3_addPrecedent_4 : decode cX3_addPrecedent 4 = .ok (.bipush 8, 2) := by decide +kernel
theorem dX3_addPrecedent_6 : decode cX3_addPrecedent 6 = .ok (.if_icmp .lt 5, 3) := by decide +kernel
theorem dX3_addPrecedent_9 : decode cX3_addPrecedent 9 = .ok (.iconst (-1), 1) := by decide +kernel
theorem dX3_addPrecedent_10 : decode cX3_addPrecedent 10 = .ok (.ireturn, 1) := by decide +kernel
theorem dX3_addPrecedent_11 : decode cX3_addPrecedent 11 = .ok (.aload_n 0, 1) := by decide +kernel
theorem dX3_addPrecedent_12 : decode cX3_addPrecedent 12 = .ok (.getfield 35, 3) := by decide +kernel
theorem dX3_addPrecedent_15 : decode cX3_addPrecedent 15 = .ok (.istore_n 3, 1) := by decide +kernel
theorem dX3_addPrecedent_16 : decode cX3_addPrecedent 16 = .ok (.aload_n 0, 1) := by decide +kernel
theorem dX3_addPrecedent_17 : decode cX3_addPrecedent 17 = .ok (.getfield 21, 3) := by decide +kernel
theorem dX3_addPrecedent_20 : decode cX3_addPrecedent 20 = .ok (.iload_n 3, 1) := by decide +kernel
theorem dX3_addPrecedent_21 : decode cX3_addPrecedent 21 = .ok (.iload_n 1, 1) := by decide +kernel
theorem dX3_addPrecedent_22 : decode cX3_addPrecedent 22 = .ok (.iastore, 1) := by decide +kernel
theorem dX3_addPrecedent_23 : decode cX3_addPrecedent 23 = .ok (.aload_n 0, 1) := by decide +kernel
theorem dX3_addPrecedent_24 : decode cX3_addPrecedent 24 = .ok (.getfield 24, 3) := by decide +kernel
theorem dX3_addPrecedent_27 : decode cX3_addPrecedent 27 = .ok (.iload_n 3, 1) := by decide +kernel
theorem dX3_addPrecedent_28 : decode cX3_addPrecedent 28 = .ok (.iload_n 2, 1) := by decide +kernel
theorem dX3_addPrecedent_29 : decode cX3_addPrecedent 29 = .ok (.bastore, 1) := by decide +kernel
theorem dX3_addPrecedent_30 : decode cX3_addPrecedent 30 = .ok (.aload_n 0, 1) := by decide +kernel
theorem dX3_addPrecedent_31 : decode cX3_addPrecedent 31 = .ok (.getfield 28, 3) := by decide +kernel
theorem dX3_addPrecedent_34 : decode cX3_addPrecedent 34 = .ok (.iload_n 3, 1) := by decide +kernel
theorem dX3_addPrecedent_35 : decode cX3_addPrecedent 35 = .ok (.iconst 0, 1) := by decide +kernel
theorem dX3_addPrecedent_36 : decode cX3_addPrecedent 36 = .ok (.bastore, 1) := by decide +kernel
theorem dX3_addPrecedent_37 : decode cX3_addPrecedent 37 = .ok (.aload_n 0, 1) := by decide +kernel
theorem dX3_addPrecedent_38 : decode cX3_addPrecedent 38 = .ok (.dup, 1) := by decide +kernel
theorem dX3_addPrecedent_39 : decode cX3_addPrecedent 39 = .ok (.getfield 35, 3) := by decide +kernel
theorem dX3_addPrecedent_42 : decode cX3_addPrecedent 42 = .ok (.iconst 1, 1) := by decide +kernel
theorem dX3_addPrecedent_43 : decode cX3_addPrecedent 43 = .ok (.iadd, 1) := by decide +kernel
theorem dX3_addPrecedent_44 : decode cX3_addPrecedent 44 = .ok (.putfield 35, 3) := by decide +kernel
theorem dX3_addPrecedent_47 : decode cX3_addPrecedent 47 = .ok (.iload_n 3, 1) := by decide +kernel
theorem dX3_addPrecedent_48 : decode cX3_addPrecedent 48 = .ok (.ireturn, 1) := by decide +kernel
theorem dX3_countRestingOn_0 : decode cX3_countRestingOn 0 = .ok (.iconst 0, 1) := by decide +kernel
theorem dX3_countRestingOn_1 : decode cX3_countRestingOn 1 = .ok (.istore_n 2, 1) := by decide +kernel
theorem dX3_countRestingOn_2 : decode cX3_countRestingOn 2 = .ok (.iconst 0, 1) := by decide +kernel
theorem dX3_countRestingOn_3 : decode cX3_countRestingOn 3 = .ok (.istore_n 3, 1) := by decide +kernel
theorem dX3_countRestingOn_4 : decode cX3_countRestingOn 4 = .ok (.iload_n 3, 1) := by decide +kernel
theorem dX3_countRestingOn_5 : decode cX3_countRestingOn 5 = .ok (.aload_n 0, 1) := by decide +kernel
theorem dX3_countRestingOn_6 : decode cX3_countRestingOn 6 = .ok (.getfield 31, 3) := by decide +kernel
theorem dX3_countRestingOn_9 : decode cX3_countRestingOn 9 = .ok (.if_icmp .ge 22, 3) := by decide +kernel
theorem dX3_countRestingOn_12 : decode cX3_countRestingOn 12 = .ok (.aload_n 0, 1) := by decide +kernel
theorem dX3_countRestingOn_13 : decode cX3_countRestingOn 13 = .ok (.getfield 17, 3) := by decide +kernel
theorem dX3_countRestingOn_16 : decode cX3_countRestingOn 16 = .ok (.iload_n 3, 1) := by decide +kernel
theorem dX3_countRestingOn_17 : decode cX3_countRestingOn 17 = .ok (.iaload, 1) := by decide +kernel
theorem dX3_countRestingOn_18 : decode cX3_countRestingOn 18 = .ok (.iload_n 1, 1) := by decide +kernel
theorem dX3_countRestingOn_19 : decode cX3_countRestingOn 19 = .ok (.if_icmp .ne 6, 3) := by decide +kernel
theorem dX3_countRestingOn_22 : decode cX3_countRestingOn 22 = .ok (.iinc 2 1, 3) := by decide +kernel
theorem dX3_countRestingOn_25 : decode cX3_countRestingOn 25 = .ok (.iinc 3 1, 3) := by decide +kernel
theorem dX3_countRestingOn_28 : decode cX3_countRestingOn 28 = .ok (.goto (-24), 3) := by decide +kernel
theorem dX3_countRestingOn_31 : decode cX3_countRestingOn 31 = .ok (.iload_n 2, 1) := by decide +kernel
theorem dX3_countRestingOn_32 : decode cX3_countRestingOn 32 = .ok (.ireturn, 1) := by decide +kernel
theorem dX3_countDecided_0 : decode cX3_countDecided 0 = .ok (.iconst 0, 1) := by decide +kernel
theorem dX3_countDecided_1 : decode cX3_countDecided 1 = .ok (.istore_n 1, 1) := by decide +kernel
theorem dX3_countDecided_2 : decode cX3_countDecided 2 = .ok (.iconst 0, 1) := by decide +kernel
theorem dX3_countDecided_3 : decode cX3_countDecided 3 = .ok (.istore_n 2, 1) := by decide +kernel
theorem dX3_countDecided_4 : decode cX3_countDecided 4 = .ok (.iload_n 2, 1) := by decide +kernel
theorem dX3_countDecided_5 : decode cX3_countDecided 5 = .ok (.aload_n 0, 1) := by decide +kernel
theorem dX3_countDecided_6 : decode cX3_countDecided 6 = .ok (.getfield 31, 3) := by decide +kernel
theorem dX3_countDecided_9 : decode cX3_countDecided 9 = .ok (.if_icmp .ge 20, 3) := by decide +kernel
theorem dX3_countDecided_12 : decode cX3_countDecided 12 = .ok (.aload_n 0, 1) := by decide +kernel
theorem dX3_countDecided_13 : decode cX3_countDecided 13 = .ok (.iload_n 2, 1) := by decide +kernel
theorem dX3_countDecided_14 : decode cX3_countDecided 14 = .ok (.invokevirtual 39, 3) := by decide +kernel
theorem dX3_countDecided_17 : decode cX3_countDecided 17 = .ok (.ifCond .eq 6, 3) := by decide +kernel
theorem dX3_countDecided_20 : decode cX3_countDecided 20 = .ok (.iinc 1 1, 3) := by decide +kernel
theorem dX3_countDecided_23 : decode cX3_countDecided 23 = .ok (.iinc 2 1, 3) := by decide +kernel
theorem dX3_countDecided_26 : decode cX3_countDecided 26 = .ok (.goto (-22), 3) := by decide +kernel
theorem dX3_countDecided_29 : decode cX3_countDecided 29 = .ok (.iload_n 1, 1) := by decide +kernel
theorem dX3_countDecided_30 : decode cX3_countDecided 30 = .ok (.ireturn, 1) := by decide +kernel
theorem dX3_countTangled_0 : decode cX3_countTangled 0 = .ok (.iconst 0, 1) := by decide +kernel
theorem dX3_countTangled_1 : decode cX3_countTangled 1 = .ok (.istore_n 1, 1) := by decide +kernel
theorem dX3_countTangled_2 : decode cX3_countTangled 2 = .ok (.iconst 0, 1) := by decide +kernel
theorem dX3_countTangled_3 : decode cX3_countTangled 3 = .ok (.istore_n 2, 1) := by decide +kernel
theorem dX3_countTangled_4 : decode cX3_countTangled 4 = .ok (.iload_n 2, 1) := by decide +kernel
theorem dX3_countTangled_5 : decode cX3_countTangled 5 = .ok (.aload_n 0, 1) := by decide +kernel
theorem dX3_countTangled_6 : decode cX3_countTangled 6 = .ok (.getfield 31, 3) := by decide +kernel
theorem dX3_countTangled_9 : decode cX3_countTangled 9 = .ok (.if_icmp .ge 20, 3) := by decide +kernel
theorem dX3_countTangled_12 : decode cX3_countTangled 12 = .ok (.aload_n 0, 1) := by decide +kernel
theorem dX3_countTangled_13 : decode cX3_countTangled 13 = .ok (.iload_n 2, 1) := by decide +kernel
theorem dX3_countTangled_14 : decode cX3_countTangled 14 = .ok (.invokevirtual 50, 3) := by decide +kernel
theorem dX3_countTangled_17 : decode cX3_countTangled 17 = .ok (.ifCond .eq 6, 3) := by decide +kernel
theorem dX3_countTangled_20 : decode cX3_countTangled 20 = .ok (.iinc 1 1, 3) := by decide +kernel
theorem dX3_countTangled_23 : decode cX3_countTangled 23 = .ok (.iinc 2 1, 3) := by decide +kernel
theorem dX3_countTangled_26 : decode cX3_countTangled 26 = .ok (.goto (-22), 3) := by decide +kernel
theorem dX3_countTangled_29 : decode cX3_countTangled 29 = .ok (.iload_n 1, 1) := by decide +kernel
theorem dX3_countTangled_30 : decode cX3_countTangled 30 = .ok (.ireturn, 1) := by decide +kernel
theorem dX3_sumOfLengths_0 : decode cX3_sumOfLengths 0 = .ok (.iconst 0, 1) := by decide +kernel
theorem dX3_sumOfLengths_1 : decode cX3_sumOfLengths 1 = .ok (.istore_n 1, 1) := by decide +kernel
theorem dX3_sumOfLengths_2 : decode cX3_sumOfLengths 2 = .ok (.iconst 0, 1) := by decide +kernel
theorem dX3_sumOfLengths_3 : decode cX3_sumOfLengths 3 = .ok (.istore_n 2, 1) := by decide +kernel
theorem dX3_sumOfLengths_4 : decode cX3_sumOfLengths 4 = .ok (.iload_n 2, 1) := by decide +kernel
theorem dX3_sumOfLengths_5 : decode cX3_sumOfLengths 5 = .ok (.aload_n 0, 1) := by decide +kernel
theorem dX3_sumOfLengths_6 : decode cX3_sumOfLengths 6 = .ok (.getfield 31, 3) := by decide +kernel
theorem dX3_sumOfLengths_9 : decode cX3_sumOfLengths 9 = .ok (.if_icmp .ge 21, 3) := by decide +kernel
theorem dX3_sumOfLengths_12 : decode cX3_sumOfLengths 12 = .ok (.iload_n 1, 1) := by decide +kernel
theorem dX3_sumOfLengths_13 : decode cX3_sumOfLengths 13 = .ok (.aload_n 0, 1) := by decide +kernel
theorem dX3_sumOfLengths_14 : decode cX3_sumOfLengths 14 = .ok (.getfield 11, 3) := by decide +kernel
theorem dX3_sumOfLengths_17 : decode cX3_sumOfLengths 17 = .ok (.iload_n 2, 1) := by decide +kernel
theorem dX3_sumOfLengths_18 : decode cX3_sumOfLengths 18 = .ok (.aaload, 1) := by decide +kernel
theorem dX3_sumOfLengths_19 : decode cX3_sumOfLengths 19 = .ok (.getfield 47, 3) := by decide +kernel
theorem dX3_sumOfLengths_22 : decode cX3_sumOfLengths 22 = .ok (.iadd, 1) := by decide +kernel
theorem dX3_sumOfLengths_23 : decode cX3_sumOfLengths 23 = .ok (.istore_n 1, 1) := by decide +kernel
theorem dX3_sumOfLengths_24 : decode cX3_sumOfLengths 24 = .ok (.iinc 2 1, 3) := by decide +kernel
theorem dX3_sumOfLengths_27 : decode cX3_sumOfLengths 27 = .ok (.goto (-23), 3) := by decide +kernel
theorem dX3_sumOfLengths_30 : decode cX3_sumOfLengths 30 = .ok (.iload_n 1, 1) := by decide +kernel
theorem dX3_sumOfLengths_31 : decode cX3_sumOfLengths 31 = .ok (.ireturn, 1) := by decide +kernel
theorem dX3_copyFrom_0 : decode cX3_copyFrom 0 = .ok (.iconst 0, 1) := by decide +kernel
theorem dX3_copyFrom_1 : decode cX3_copyFrom 1 = .ok (.istore_n 2, 1) := by decide +kernel
theorem dX3_copyFrom_2 : decode cX3_copyFrom 2 = .ok (.iload_n 2, 1) := by decide +kernel
theorem dX3_copyFrom_3 : decode cX3_copyFrom 3 = .ok (.bipush 8, 2) := by decide +kernel
theorem dX3_copyFrom_5 : decode cX3_copyFrom 5 = .ok (.if_icmp .ge 72, 3) := by decide +kernel
theorem dX3_copyFrom_8 : decode cX3_copyFrom 8 = .ok (.aload_n 0, 1) := by decide +kernel
theorem dX3_copyFrom_9 : decode cX3_copyFrom 9 = .ok (.getfield 11, 3) := by decide +kernel
theorem dX3_copyFrom_12 : decode cX3_copyFrom 12 = .ok (.iload_n 2, 1) := by decide +kernel
theorem dX3_copyFrom_13 : decode cX3_copyFrom 13 = .ok (.aaload, 1) := by decide +kernel
theorem dX3_copyFrom_14 : decode cX3_copyFrom 14 = .ok (.aload_n 1, 1) := by decide +kernel
theorem dX3_copyFrom_15 : decode cX3_copyFrom 15 = .ok (.getfield 11, 3) := by decide +kernel
theorem dX3_copyFrom_18 : decode cX3_copyFrom 18 = .ok (.iload_n 2, 1) := by decide +kernel
theorem dX3_copyFrom_19 : decode cX3_copyFrom 19 = .ok (.aaload, 1) := by decide +kernel
theorem dX3_copyFrom_20 : decode cX3_copyFrom 20 = .ok (.invokevirtual 53, 3) := by decide +kernel
theorem dX3_copyFrom_23 : decode cX3_copyFrom 23 = .ok (.aload_n 0, 1) := by decide +kernel
theorem dX3_copyFrom_24 : decode cX3_copyFrom 24 = .ok (.getfield 17, 3) := by decide +kernel
theorem dX3_copyFrom_27 : decode cX3_copyFrom 27 = .ok (.iload_n 2, 1) := by decide +kernel
theorem dX3_copyFrom_28 : decode cX3_copyFrom 28 = .ok (.aload_n 1, 1) := by decide +kernel
theorem dX3_copyFrom_29 : decode cX3_copyFrom 29 = .ok (.getfield 17, 3) := by decide +kernel
theorem dX3_copyFrom_32 : decode cX3_copyFrom 32 = .ok (.iload_n 2, 1) := by decide +kernel
theorem dX3_copyFrom_33 : decode cX3_copyFrom 33 = .ok (.iaload, 1) := by decide +kernel
theorem dX3_copyFrom_34 : decode cX3_copyFrom 34 = .ok (.iastore, 1) := by decide +kernel
theorem dX3_copyFrom_35 : decode cX3_copyFrom 35 = .ok (.aload_n 0, 1) := by decide +kernel
theorem dX3_copyFrom_36 : decode cX3_copyFrom 36 = .ok (.getfield 21, 3) := by decide +kernel
theorem dX3_copyFrom_39 : decode cX3_copyFrom 39 = .ok (.iload_n 2, 1) := by decide +kernel
theorem dX3_copyFrom_40 : decode cX3_copyFrom 40 = .ok (.aload_n 1, 1) := by decide +kernel
theorem dX3_copyFrom_41 : decode cX3_copyFrom 41 = .ok (.getfield 21, 3) := by decide +kernel
theorem dX3_copyFrom_44 : decode cX3_copyFrom 44 = .ok (.iload_n 2, 1) := by decide +kernel
theorem dX3_copyFrom_45 : decode cX3_copyFrom 45 = .ok (.iaload, 1) := by decide +kernel
theorem dX3_copyFrom_46 : decode cX3_copyFrom 46 = .ok (.iastore, 1) := by decide +kernel
theorem dX3_copyFrom_47 : decode cX3_copyFrom 47 = .ok (.aload_n 0, 1) := by decide +kernel
theorem dX3_copyFrom_48 : decode cX3_copyFrom 48 = .ok (.getfield 24, 3) := by decide +kernel
theorem dX3_copyFrom_51 : decode cX3_copyFrom 51 = .ok (.iload_n 2, 1) := by decide +kernel
theorem dX3_copyFrom_52 : decode cX3_copyFrom 52 = .ok (.aload_n 1, 1) := by decide +kernel
theorem dX3_copyFrom_53 : decode cX3_copyFrom 53 = .ok (.getfield 24, 3) := by decide +kernel
theorem dX3_copyFrom_56 : decode cX3_copyFrom 56 = .ok (.iload_n 2, 1) := by decide +kernel
theorem dX3_copyFrom_57 : decode cX3_copyFrom 57 = .ok (.baload, 1) := by decide +kernel
theorem dX3_copyFrom_58 : decode cX3_copyFrom 58 = .ok (.bastore, 1) := by decide +kernel
theorem dX3_copyFrom_59 : decode cX3_copyFrom 59 = .ok (.aload_n 0, 1) := by decide +kernel
theorem dX3_copyFrom_60 : decode cX3_copyFrom 60 = .ok (.getfield 28, 3) := by decide +kernel
theorem dX3_copyFrom_63 : decode cX3_copyFrom 63 = .ok (.iload_n 2, 1) := by decide +kernel
theorem dX3_copyFrom_64 : decode cX3_copyFrom 64 = .ok (.aload_n 1, 1) := by decide +kernel
theorem dX3_copyFrom_65 : decode cX3_copyFrom 65 = .ok (.getfield 28, 3) := by decide +kernel
theorem dX3_copyFrom_68 : decode cX3_copyFrom 68 = .ok (.iload_n 2, 1) := by decide +kernel
theorem dX3_copyFrom_69 : decode cX3_copyFrom 69 = .ok (.baload, 1) := by decide +kernel
theorem dX3_copyFrom_70 : decode cX3_copyFrom 70 = .ok (.bastore, 1) := by decide +kernel
theorem dX3_copyFrom_71 : decode cX3_copyFrom 71 = .ok (.iinc 2 1, 3) := by decide +kernel
theorem dX3_copyFrom_74 : decode cX3_copyFrom 74 = .ok (.goto (-72), 3) := by decide +kernel
theorem dX3_copyFrom_77 : decode cX3_copyFrom 77 = .ok (.aload_n 0, 1) := by decide +kernel
theorem dX3_copyFrom_78 : decode cX3_copyFrom 78 = .ok (.aload_n 1, 1) := by decide +kernel
theorem dX3_copyFrom_79 : decode cX3_copyFrom 79 = .ok (.getfield 31, 3) := by decide +kernel
theorem dX3_copyFrom_82 : decode cX3_copyFrom 82 = .ok (.putfield 31, 3) := by decide +kernel
theorem dX3_copyFrom_85 : decode cX3_copyFrom 85 = .ok (.aload_n 0, 1) := by decide +kernel
theorem dX3_copyFrom_86 : decode cX3_copyFrom 86 = .ok (.aload_n 1, 1) := by decide +kernel
theorem dX3_copyFrom_87 : decode cX3_copyFrom 87 = .ok (.getfield 35, 3) := by decide +kernel
theorem dX3_copyFrom_90 : decode cX3_copyFrom 90 = .ok (.putfield 35, 3) := by decide +kernel
theorem dX3_copyFrom_93 : decode cX3_copyFrom 93 = .ok (.return_, 1) := by decide +kernel
theorem dX4_init_0 : decode cX4_init 0 = .ok (.aload_n 0, 1) := by decide +kernel
theorem dX4_init_1 : decode cX4_init 1 = .ok (.invokespecial 3, 3) := by decide +kernel
theorem dX4_init_4 : decode cX4_init 4 = .ok (.aload_n 0, 1) := by decide +kernel
theorem dX4_init_5 : decode cX4_init 5 = .ok (.bipush 8, 2) := by decide +kernel
theorem dX4_init_7 : decode cX4_init 7 = .ok (.anewarray 9, 3) := by decide +kernel
theorem dX4_init_10 : decode cX4_init 10 = .ok (.putfield 11, 3) := by decide +kernel
theorem dX4_init_13 : decode cX4_init 13 = .ok (.aload_n 0, 1) := by decide +kernel
theorem dX4_init_14 : decode cX4_init 14 = .ok (.iconst 0, 1) := by decide +kernel
theorem dX4_init_15 : decode cX4_init 15 = .ok (.putfield 17, 3) := by decide +kernel
theorem dX4_init_18 : decode cX4_init 18 = .ok (.aload_n 0, 1) := by decide +kernel
theorem dX4_init_19 : decode cX4_init 19 = .ok (.iconst 0, 1) := by decide +kernel
theorem dX4_init_20 : decode cX4_init 20 = .ok (.putfield 21, 3) := by decide +kernel
theorem dX4_init_23 : decode cX4_init 23 = .ok (.iconst 0, 1) := by decide +kernel
theorem dX4_init_24 : decode cX4_init 24 = .ok (.istore_n 1, 1) := by decide +kernel
theorem dX4_init_25 : decode cX4_init 25 = .ok (.iload_n 1, 1) := by decide +kernel
theorem dX4_init_26 : decode cX4_init 26 = .ok (.bipush 8, 2) := by decide +kernel
theorem dX4_init_28 : decode cX4_init 28 = .ok (.if_icmp .ge 22, 3) := by decide +kernel
theorem dX4_init_31 : decode cX4_init 31 = .ok (.aload_n 0, 1) := by decide +kernel
theorem dX4_init_32 : decode cX4_init 32 = .ok (.getfield 11, 3) := by decide +kernel
theorem dX4_init_35 : decode cX4_init 35 = .ok (.iload_n 1, 1) := by decide +kernel
theorem dX4_init_36 : decode cX4_init 36 = .ok (.new 9, 3) := by decide +kernel
theorem dX4_init_39 : decode cX4_init 39 = .ok (.dup, 1) := by decide +kernel
theorem dX4_init_40 : decode cX4_init 40 = .ok (.invokespecial 24, 3) := by decide +kernel
theorem dX4_init_43 : decode cX4_init 43 = .ok (.aastore, 1) := by decide +kernel
theorem dX4_init_44 : decode cX4_init 44 = .ok (.iinc 1 1, 3) := by decide +kernel
theorem dX4_init_47 : decode cX4_init 47 = .ok (.goto (-22), 3) := by decide +kernel
theorem dX4_init_50 : decode cX4_init 50 = .ok (.return_, 1) := by decide +kernel
theorem dX4_keep_0 : decode cX4_keep 0 = .ok (.aload_n 0, 1) := by decide +kernel
theorem dX4_keep_1 : decode cX4_keep 1 = .ok (.getfield 11, 3) := by decide +kernel
theorem dX4_keep_4 : decode cX4_keep 4 = .ok (.aload_n 0, 1) := by decide +kernel
theorem dX4_keep_5 : decode cX4_keep 5 = .ok (.getfield 17, 3) := by decide +kernel
theorem dX4_keep_8 : decode cX4_keep 8 = .ok (.aaload, 1) := by decide +kernel
theorem dX4_keep_9 : decode cX4_keep 9 = .ok (.aload_n 1, 1) := by decide +kernel
theorem dX4_keep_10 : decode cX4_keep 10 = .ok (.invokevirtual 25, 3) := by decide +kernel
theorem dX4_keep_13 : decode cX4_keep 13 = .ok (.aload_n 0, 1) := by decide +kernel
theorem dX4_keep_14 : decode cX4_keep 14 = .ok (.aload_n 0, 1) := by decide +kernel
theorem dX4_keep_15 : decode cX4_keep 15 = .ok (.getfield 17, 3) := by decide +kernel
theorem dX4_keep_18 : decode cX4_keep 18 = .ok (.iconst 1, 1) := by decide +kernel
theorem dX4_keep_19 : decode cX4_keep 19 = .ok (.iadd, 1) := by decide +kernel
theorem dX4_keep_20 : decode cX4_keep 20 = .ok (.bipush 8, 2) := by decide +kernel
theorem dX4_keep_22 : decode cX4_keep 22 = .ok (.irem, 1) := by decide +kernel
theorem dX4_keep_23 : decode cX4_keep 23 = .ok (.putfield 17, 3) := by decide +kernel
theorem dX4_keep_26 : decode cX4_keep 26 = .ok (.aload_n 0, 1) := by decide +kernel
theorem dX4_keep_27 : decode cX4_keep 27 = .ok (.getfield 21, 3) := by decide +kernel
theorem dX4_keep_30 : decode cX4_keep 30 = .ok (.bipush 8, 2) := by decide +kernel
theorem dX4_keep_32 : decode cX4_keep 32 = .ok (.if_icmp .ge 13, 3) := by decide +kernel
theorem dX4_keep_35 : decode cX4_keep 35 = .ok (.aload_n 0, 1) := by decide +kernel
theorem dX4_keep_36 : decode cX4_keep 36 = .ok (.dup, 1) := by decide +kernel
theorem dX4_keep_37 : decode cX4_keep 37 = .ok (.getfield 21, 3) := by decide +kernel
theorem dX4_keep_40 : decode cX4_keep 40 = .ok (.iconst 1, 1) := by decide +kernel
theorem dX4_keep_41 : decode cX4_keep 41 = .ok (.iadd, 1) := by decide +kernel
theorem dX4_keep_42 : decode cX4_keep 42 = .ok (.putfield 21, 3) := by decide +kernel
theorem dX4_keep_45 : decode cX4_keep 45 = .ok (.return_, 1) := by decide +kernel
theorem dX4_takeBack_0 : decode cX4_takeBack 0 = .ok (.aload_n 0, 1) := by decide +kernel
theorem dX4_takeBack_1 : decode cX4_takeBack 1 = .ok (.getfield 21, 3) := by decide +kernel
theorem dX4_takeBack_4 : decode cX4_takeBack 4 = .ok (.ifCond .le 42, 3) := by decide +kernel
theorem dX4_takeBack_7 : decode cX4_takeBack 7 = .ok (.aload_n 0, 1) := by decide +kernel
theorem dX4_takeBack_8 : decode cX4_takeBack 8 = .ok (.aload_n 0, 1) := by decide +kernel
theorem dX4_takeBack_9 : decode cX4_takeBack 9 = .ok (.getfield 17, 3) := by decide +kernel
theorem dX4_takeBack_12 : decode cX4_takeBack 12 = .ok (.bipush 8, 2) := by decide +kernel
theorem dX4_takeBack_14 : decode cX4_takeBack 14 = .ok (.iadd, 1) := by decide +kernel
theorem dX4_takeBack_15 : decode cX4_takeBack 15 = .ok (.iconst 1, 1) := by decide +kernel
theorem dX4_takeBack_16 : decode cX4_takeBack 16 = .ok (.isub, 1) := by decide +kernel
theorem dX4_takeBack_17 : decode cX4_takeBack 17 = .ok (.bipush 8, 2) := by decide +kernel
theorem dX4_takeBack_19 : decode cX4_takeBack 19 = .ok (.irem, 1) := by decide +kernel
theorem dX4_takeBack_20 : decode cX4_takeBack 20 = .ok (.putfield 17, 3) := by decide +kernel
theorem dX4_takeBack_23 : decode cX4_takeBack 23 = .ok (.aload_n 1, 1) := by decide +kernel
theorem dX4_takeBack_24 : decode cX4_takeBack 24 = .ok (.aload_n 0, 1) := by decide +kernel
theorem dX4_takeBack_25 : decode cX4_takeBack 25 = .ok (.getfield 11, 3) := by decide +kernel
theorem dX4_takeBack_28 : decode cX4_takeBack 28 = .ok (.aload_n 0, 1) := by decide +kernel
theorem dX4_takeBack_29 : decode cX4_takeBack 29 = .ok (.getfield 17, 3) := by decide +kernel
theorem dX4_takeBack_32 : decode cX4_takeBack 32 = .ok (.aaload, 1) := by decide +kernel
theorem dX4_takeBack_33 : decode cX4_takeBack 33 = .ok (.invokevirtual 25, 3) := by decide +kernel
theorem dX4_takeBack_36 : decode cX4_takeBack 36 = .ok (.aload_n 0, 1) := by decide +kernel
theorem dX4_takeBack_37 : decode cX4_takeBack 37 = .ok (.dup, 1) := by decide +kernel
theorem dX4_takeBack_38 : decode cX4_takeBack 38 = .ok (.getfield 21, 3) := by decide +kernel
theorem dX4_takeBack_41 : decode cX4_takeBack 41 = .ok (.iconst 1, 1) := by decide +kernel
theorem dX4_takeBack_42 : decode cX4_takeBack 42 = .ok (.isub, 1) := by decide +kernel
theorem dX4_takeBack_43 : decode cX4_takeBack 43 = .ok (.putfield 21, 3) := by decide +kernel
theorem dX4_takeBack_46 : decode cX4_takeBack 46 = .ok (.return_, 1) := by decide +kernel
theorem dX4_forget_0 : decode cX4_forget 0 = .ok (.aload_n 0, 1) := by decide +kernel
theorem dX4_forget_1 : decode cX4_forget 1 = .ok (.iconst 0, 1) := by decide +kernel
theorem dX4_forget_2 : decode cX4_forget 2 = .ok (.putfield 21, 3) := by decide +kernel
theorem dX4_forget_5 : decode cX4_forget 5 = .ok (.return_, 1) := by decide +kernel
theorem dX6_init_0 : decode cX6_init 0 = .ok (.aload_n 0, 1) := by decide +kernel
theorem dX6_init_1 : decode cX6_init 1 = .ok (.invokespecial 3, 3) := by decide +kernel
theorem dX6_init_4 : decode cX6_init 4 = .ok (.aload_n 0, 1) := by decide +kernel
theorem dX6_init_5 : decode cX6_init 5 = .ok (.sipush 400, 3) := by decide +kernel
theorem dX6_init_8 : decode cX6_init 8 = .ok (.newarray .int, 2) := by decide +kernel
theorem dX6_init_10 : decode cX6_init 10 = .ok (.putfield 9, 3) := by decide +kernel
theorem dX6_init_13 : decode cX6_init 13 = .ok (.aload_n 0, 1) := by decide +kernel
theorem dX6_init_14 : decode cX6_init 14 = .ok (.sipush 400, 3) := by decide +kernel
theorem dX6_init_17 : decode cX6_init 17 = .ok (.newarray .int, 2) := by decide +kernel
theorem dX6_init_19 : decode cX6_init 19 = .ok (.putfield 15, 3) := by decide +kernel
theorem dX6_init_22 : decode cX6_init 22 = .ok (.aload_n 0, 1) := by decide +kernel
theorem dX6_init_23 : decode cX6_init 23 = .ok (.iconst 0, 1) := by decide +kernel
theorem dX6_init_24 : decode cX6_init 24 = .ok (.putfield 18, 3) := by decide +kernel
theorem dX6_init_27 : decode cX6_init 27 = .ok (.aload_n 0, 1) := by decide +kernel
theorem dX6_init_28 : decode cX6_init 28 = .ok (.iconst 0, 1) := by decide +kernel
theorem dX6_init_29 : decode cX6_init 29 = .ok (.putfield 22, 3) := by decide +kernel
theorem dX6_init_32 : decode cX6_init 32 = .ok (.aload_n 0, 1) := by decide +kernel
theorem dX6_init_33 : decode cX6_init 33 = .ok (.iconst 0, 1) := by decide +kernel
theorem dX6_init_34 : decode cX6_init 34 = .ok (.putfield 25, 3) := by decide +kernel
theorem dX6_init_37 : decode cX6_init 37 = .ok (.aload_n 0, 1) := by decide +kernel
theorem dX6_init_38 : decode cX6_init 38 = .ok (.iconst 0, 1) := by decide +kernel
theorem dX6_init_39 : decode cX6_init 39 = .ok (.putfield 28, 3) := by decide +kernel
theorem dX6_init_42 : decode cX6_init 42 = .ok (.return_, 1) := by decide +kernel
theorem dX6_relaxWord_0 : decode cX6_relaxWord 0 = .ok (.aload_n 0, 1) := by decide +kernel
theorem dX6_relaxWord_1 : decode cX6_relaxWord 1 = .ok (.invokevirtual 32, 3) := by decide +kernel
theorem dX6_relaxWord_4 : decode cX6_relaxWord 4 = .ok (.aload_n 0, 1) := by decide +kernel
theorem dX6_relaxWord_5 : decode cX6_relaxWord 5 = .ok (.aload_n 1, 1) := by decide +kernel
theorem dX6_relaxWord_6 : decode cX6_relaxWord 6 = .ok (.invokevirtual 35, 3) := by decide +kernel
theorem dX6_relaxWord_9 : decode cX6_relaxWord 9 = .ok (.aload_n 0, 1) := by decide +kernel
theorem dX6_relaxWord_10 : decode cX6_relaxWord 10 = .ok (.invokevirtual 39, 3) := by decide +kernel
theorem dX6_relaxWord_13 : decode cX6_relaxWord 13 = .ok (.return_, 1) := by decide +kernel
theorem dX6_relaxQuotient_0 : decode cX6_relaxQuotient 0 = .ok (.aload_n 0, 1) := by decide +kernel
theorem dX6_relaxQuotient_1 : decode cX6_relaxQuotient 1 = .ok (.invokevirtual 32, 3) := by decide +kernel
theorem dX6_relaxQuotient_4 : decode cX6_relaxQuotient 4 = .ok (.aload_n 0, 1) := by decide +kernel
theorem dX6_relaxQuotient_5 : decode cX6_relaxQuotient 5 = .ok (.aload_n 2, 1) := by decide +kernel
theorem dX6_relaxQuotient_6 : decode cX6_relaxQuotient 6 = .ok (.invokevirtual 35, 3) := by decide +kernel
theorem dX6_relaxQuotient_9 : decode cX6_relaxQuotient 9 = .ok (.iconst 0, 1) := by decide +kernel
theorem dX6_relaxQuotient_10 : decode cX6_relaxQuotient 10 = .ok (.istore_n 3, 1) := by decide +kernel
theorem dX6_relaxQuotient_11 : decode cX6_relaxQuotient 11 = .ok (.iload_n 3, 1) := by decide +kernel
theorem dX6_relaxQuotient_12 : decode cX6_relaxQuotient 12 = .ok (.aload_n 1, 1) := by decide +kernel
theorem dX6_relaxQuotient_13 : decode cX6_relaxQuotient 13 = .ok (.getfield 42, 3) := by decide +kernel
theorem dX6_relaxQuotient_16 : decode cX6_relaxQuotient 16 = .ok (.if_icmp .ge 20, 3) := by decide +kernel
theorem dX6_relaxQuotient_19 : decode cX6_relaxQuotient 19 = .ok (.aload_n 0, 1) := by decide +kernel
theorem dX6_relaxQuotient_20 : decode cX6_relaxQuotient 20 = .ok (.aload_n 1, 1) := by decide +kernel
theorem dX6_relaxQuotient_21 : decode cX6_relaxQuotient 21 = .ok (.getfield 47, 3) := by decide +kernel
theorem dX6_relaxQuotient_24 : decode cX6_relaxQuotient 24 = .ok (.iload_n 3, 1) := by decide +kernel
theorem dX6_relaxQuotient_25 : decode cX6_relaxQuotient 25 = .ok (.iaload, 1) := by decide +kernel
theorem dX6_relaxQuotient_26 : decode cX6_relaxQuotient 26 = .ok (.ineg, 1) := by decide +kernel
theorem dX6_relaxQuotient_27 : decode cX6_relaxQuotient 27 = .ok (.invokevirtual 50, 3) := by decide +kernel
theorem dX6_relaxQuotient_30 : decode cX6_relaxQuotient 30 = .ok (.iinc 3 1, 3) := by decide +kernel
theorem dX6_relaxQuotient_33 : decode cX6_relaxQuotient 33 = .ok (.goto (-22), 3) := by decide +kernel
theorem dX6_relaxQuotient_36 : decode cX6_relaxQuotient 36 = .ok (.aload_n 0, 1) := by decide +kernel
theorem dX6_relaxQuotient_37 : decode cX6_relaxQuotient 37 = .ok (.invokevirtual 39, 3) := by decide +kernel
theorem dX6_relaxQuotient_40 : decode cX6_relaxQuotient 40 = .ok (.return_, 1) := by decide +kernel
theorem dX6_signOfDone_0 : decode cX6_signOfDone 0 = .ok (.iconst 0, 1) := by decide +kernel
theorem dX6_signOfDone_1 : decode cX6_signOfDone 1 = .ok (.istore_n 1, 1) := by decide +kernel
theorem dX6_signOfDone_2 : decode cX6_signOfDone 2 = .ok (.iconst 0, 1) := by decide +kernel
theorem dX6_signOfDone_3 : decode cX6_signOfDone 3 = .ok (.istore_n 2, 1) := by decide +kernel
theorem dX6_signOfDone_4 : decode cX6_signOfDone 4 = .ok (.iload_n 2, 1) := by decide +kernel
theorem dX6_signOfDone_5 : decode cX6_signOfDone 5 = .ok (.aload_n 0, 1) := by decide +kernel
theorem dX6_signOfDone_6 : decode cX6_signOfDone 6 = .ok (.getfield 18, 3) := by decide +kernel
theorem dX6_signOfDone_9 : decode cX6_signOfDone 9 = .ok (.if_icmp .ge 36, 3) := by decide +kernel
theorem dX6_signOfDone_12 : decode cX6_signOfDone 12 = .ok (.iload_n 1, 1) := by decide +kernel
theorem dX6_signOfDone_13 : decode cX6_signOfDone 13 = .ok (.ifCond .eq 19, 3) := by decide +kernel
theorem dX6_signOfDone_16 : decode cX6_signOfDone 16 = .ok (.aload_n 0, 1) := by decide +kernel
theorem dX6_signOfDone_17 : decode cX6_signOfDone 17 = .ok (.getfield 9, 3) := by decide +kernel
theorem dX6_signOfDone_20 : decode cX6_signOfDone 20 = .ok (.iload_n 2, 1) := by decide +kernel
theorem dX6_signOfDone_21 : decode cX6_signOfDone 21 = .ok (.iaload, 1) := by decide +kernel
theorem dX6_signOfDone_22 : decode cX6_signOfDone 22 = .ok (.invokestatic 54, 3) := by decide +kernel
theorem dX6_signOfDone_25 : decode cX6_signOfDone 25 = .ok (.iload_n 1, 1) := by decide +kernel
theorem dX6_signOfDone_26 : decode cX6_signOfDone 26 = .ok (.invokestatic 54, 3) := by decide +kernel
theorem dX6_signOfDone_29 : decode cX6_signOfDone 29 = .ok (.if_icmp .ge 10, 3) := by decide +kernel
theorem dX6_signOfDone_32 : decode cX6_signOfDone 32 = .ok (.aload_n 0, 1) := by decide +kernel
theorem dX6_signOfDone_33 : decode cX6_signOfDone 33 = .ok (.getfield 9, 3) := by decide +kernel
theorem dX6_signOfDone_36 : decode cX6_signOfDone 36 = .ok (.iload_n 2, 1) := by decide +kernel
theorem dX6_signOfDone_37 : decode cX6_signOfDone 37 = .ok (.iaload, 1) := by decide +kernel
theorem dX6_signOfDone_38 : decode cX6_signOfDone 38 = .ok (.istore_n 1, 1) := by decide +kernel
theorem dX6_signOfDone_39 : decode cX6_signOfDone 39 = .ok (.iinc 2 1, 3) := by decide +kernel
theorem dX6_signOfDone_42 : decode cX6_signOfDone 42 = .ok (.goto (-38), 3) := by decide +kernel
theorem dX6_signOfDone_45 : decode cX6_signOfDone 45 = .ok (.iload_n 1, 1) := by decide +kernel
theorem dX6_signOfDone_46 : decode cX6_signOfDone 46 = .ok (.i2l, 1) := by decide +kernel
theorem dX6_signOfDone_47 : decode cX6_signOfDone 47 = .ok (.invokestatic 58, 3) := by decide +kernel
theorem dX6_signOfDone_50 : decode cX6_signOfDone 50 = .ok (.ireturn, 1) := by decide +kernel
theorem dX6_begin_0 : decode cX6_begin 0 = .ok (.aload_n 0, 1) := by decide +kernel
theorem dX6_begin_1 : decode cX6_begin 1 = .ok (.iconst 0, 1) := by decide +kernel
theorem dX6_begin_2 : decode cX6_begin 2 = .ok (.putfield 18, 3) := by decide +kernel
theorem dX6_begin_5 : decode cX6_begin 5 = .ok (.aload_n 0, 1) := by decide +kernel
theorem dX6_begin_6 : decode cX6_begin 6 = .ok (.iconst 0, 1) := by decide +kernel
theorem dX6_begin_7 : decode cX6_begin 7 = .ok (.putfield 22, 3) := by decide +kernel
theorem dX6_begin_10 : decode cX6_begin 10 = .ok (.aload_n 0, 1) := by decide +kernel
theorem dX6_begin_11 : decode cX6_begin 11 = .ok (.iconst 0, 1) := by decide +kernel
theorem dX6_begin_12 : decode cX6_begin 12 = .ok (.putfield 25, 3) := by decide +kernel
theorem dX6_begin_15 : decode cX6_begin 15 = .ok (.aload_n 0, 1) := by decide +kernel
theorem dX6_begin_16 : decode cX6_begin 16 = .ok (.iconst 0, 1) := by decide +kernel
theorem dX6_begin_17 : decode cX6_begin 17 = .ok (.putfield 28, 3) := by decide +kernel
theorem dX6_begin_20 : decode cX6_begin 20 = .ok (.return_, 1) := by decide +kernel
theorem dX6_putAhead_0 : decode cX6_putAhead 0 = .ok (.aload_n 1, 1) := by decide +kernel
theorem dX6_putAhead_1 : decode cX6_putAhead 1 = .ok (.getfield 42, 3) := by decide +kernel
theorem dX6_putAhead_4 : decode cX6_putAhead 4 = .ok (.iconst 1, 1) := by decide +kernel
theorem dX6_putAhead_5 : decode cX6_putAhead 5 = .ok (.isub, 1) := by decide +kernel
theorem dX6_putAhead_6 : decode cX6_putAhead 6 = .ok (.istore_n 2, 1) := by decide +kernel
theorem dX6_putAhead_7 : decode cX6_putAhead 7 = .ok (.iload_n 2, 1) := by decide +kernel
theorem dX6_putAhead_8 : decode cX6_putAhead 8 = .ok (.ifCond .lt 19, 3) := by decide +kernel
theorem dX6_putAhead_11 : decode cX6_putAhead 11 = .ok (.aload_n 0, 1) := by decide +kernel
theorem dX6_putAhead_12 : decode cX6_putAhead 12 = .ok (.aload_n 1, 1) := by decide +kernel
theorem dX6_putAhead_13 : decode cX6_putAhead 13 = .ok (.getfield 47, 3) := by decide +kernel
theorem dX6_putAhead_16 : decode cX6_putAhead 16 = .ok (.iload_n 2, 1) := by decide +kernel
theorem dX6_putAhead_17 : decode cX6_putAhead 17 = .ok (.iaload, 1) := by decide +kernel
theorem dX6_putAhead_18 : decode cX6_putAhead 18 = .ok (.invokevirtual 50, 3) := by decide +kernel
theorem dX6_putAhead_21 : decode cX6_putAhead 21 = .ok (.iinc 2 (-1), 3) := by decide +kernel
theorem dX6_putAhead_24 : decode cX6_putAhead 24 = .ok (.goto (-17), 3) := by decide +kernel
theorem dX6_putAhead_27 : decode cX6_putAhead 27 = .ok (.return_, 1) := by decide +kernel
theorem dX6_push_0 : decode cX6_push 0 = .ok (.aload_n 0, 1) := by decide +kernel
theorem dX6_push_1 : decode cX6_push 1 = .ok (.getfield 22, 3) := by decide +kernel
theorem dX6_push_4 : decode cX6_push 4 = .ok (.sipush 400, 3) := by decide +kernel
theorem dX6_push_7 : decode cX6_push 7 = .ok (.if_icmp .ge 23, 3) := by decide +kernel
theorem dX6_push_10 : decode cX6_push 10 = .ok (.aload_n 0, 1) := by decide +kernel
theorem dX6_push_11 : decode cX6_push 11 = .ok (.getfield 15, 3) := by decide +kernel
theorem dX6_push_14 : decode cX6_push 14 = .ok (.aload_n 0, 1) := by decide +kernel
theorem dX6_push_15 : decode cX6_push 15 = .ok (.getfield 22, 3) := by decide +kernel
theorem dX6_push_18 : decode cX6_push 18 = .ok (.iload_n 1, 1) := by decide +kernel
theorem dX6_push_19 : decode cX6_push 19 = .ok (.iastore, 1) := by decide +kernel
theorem dX6_push_20 : decode cX6_push 20 = .ok (.aload_n 0, 1) := by decide +kernel
theorem dX6_push_21 : decode cX6_push 21 = .ok (.dup, 1) := by decide +kernel
theorem dX6_push_22 : decode cX6_push 22 = .ok (.getfield 22, 3) := by decide +kernel
theorem dX6_push_25 : decode cX6_push 25 = .ok (.iconst 1, 1) := by decide +kernel
theorem dX6_push_26 : decode cX6_push 26 = .ok (.iadd, 1) := by decide +kernel
theorem dX6_push_27 : decode cX6_push 27 = .ok (.putfield 22, 3) := by decide +kernel
theorem dX6_push_30 : decode cX6_push 30 = .ok (.return_, 1) := by decide +kernel
theorem dX6_run_0 : decode cX6_run 0 = .ok (.iconst 0, 1) := by decide +kernel
theorem dX6_run_1 : decode cX6_run 1 = .ok (.istore_n 1, 1) := by decide +kernel
theorem dX6_run_2 : decode cX6_run 2 = .ok (.iload_n 1, 1) := by decide +kernel
theorem dX6_run_3 : decode cX6_run 3 = .ok (.ldc 62, 2) := by decide +kernel
theorem dX6_run_5 : decode cX6_run 5 = .ok (.if_icmp .ge 51, 3) := by decide +kernel
theorem dX6_run_8 : decode cX6_run 8 = .ok (.aload_n 0, 1) := by decide +kernel
theorem dX6_run_9 : decode cX6_run 9 = .ok (.getfield 22, 3) := by decide +kernel
theorem dX6_run_12 : decode cX6_run 12 = .ok (.ifCond .le 44, 3) := by decide +kernel
theorem dX6_run_15 : decode cX6_run 15 = .ok (.aload_n 0, 1) := by decide +kernel
theorem dX6_run_16 : decode cX6_run 16 = .ok (.getfield 28, 3) := by decide +kernel
theorem dX6_run_19 : decode cX6_run 19 = .ok (.ifCond .ne 37, 3) := by decide +kernel
theorem dX6_run_22 : decode cX6_run 22 = .ok (.aload_n 0, 1) := by decide +kernel
theorem dX6_run_23 : decode cX6_run 23 = .ok (.invokevirtual 63, 3) := by decide +kernel
theorem dX6_run_26 : decode cX6_run 26 = .ok (.aload_n 0, 1) := by decide +kernel
theorem dX6_run_27 : decode cX6_run 27 = .ok (.getfield 9, 3) := by decide +kernel
theorem dX6_run_30 : decode cX6_run 30 = .ok (.aload_n 0, 1) := by decide +kernel
theorem dX6_run_31 : decode cX6_run 31 = .ok (.getfield 18, 3) := by decide +kernel
theorem dX6_run_34 : decode cX6_run 34 = .ok (.iconst 1, 1) := by decide +kernel
theorem dX6_run_35 : decode cX6_run 35 = .ok (.isub, 1) := by decide +kernel
theorem dX6_run_36 : decode cX6_run 36 = .ok (.invokestatic 66, 3) := by decide +kernel
theorem dX6_run_39 : decode cX6_run 39 = .ok (.istore_n 2, 1) := by decide +kernel
theorem dX6_run_40 : decode cX6_run 40 = .ok (.iload_n 2, 1) := by decide +kernel
theorem dX6_run_41 : decode cX6_run 41 = .ok (.iconst (-1), 1) := by decide +kernel
theorem dX6_run_42 : decode cX6_run 42 = .ok (.if_icmp .eq 8, 3) := by decide +kernel
theorem dX6_run_45 : decode cX6_run 45 = .ok (.aload_n 0, 1) := by decide +kernel
theorem dX6_run_46 : decode cX6_run 46 = .ok (.iload_n 2, 1) := by decide +kernel
theorem dX6_run_47 : decode cX6_run 47 = .ok (.invokevirtual 70, 3) := by decide +kernel
theorem dX6_run_50 : decode cX6_run 50 = .ok (.iinc 1 1, 3) := by decide +kernel
theorem dX6_run_53 : decode cX6_run 53 = .ok (.goto (-51), 3) := by decide +kernel
theorem dX6_run_56 : decode cX6_run 56 = .ok (.aload_n 0, 1) := by decide +kernel
theorem dX6_run_57 : decode cX6_run 57 = .ok (.getfield 22, 3) := by decide +kernel
theorem dX6_run_60 : decode cX6_run 60 = .ok (.ifCond .le 8, 3) := by decide +kernel
theorem dX6_run_63 : decode cX6_run 63 = .ok (.aload_n 0, 1) := by decide +kernel
theorem dX6_run_64 : decode cX6_run 64 = .ok (.iconst 1, 1) := by decide +kernel
theorem dX6_run_65 : decode cX6_run 65 = .ok (.putfield 28, 3) := by decide +kernel
theorem dX6_run_68 : decode cX6_run 68 = .ok (.return_, 1) := by decide +kernel
theorem dX6_takeNext_0 : decode cX6_takeNext 0 = .ok (.aload_n 0, 1) := by decide +kernel
theorem dX6_takeNext_1 : decode cX6_takeNext 1 = .ok (.getfield 18, 3) := by decide +kernel
theorem dX6_takeNext_4 : decode cX6_takeNext 4 = .ok (.sipush 400, 3) := by decide +kernel
theorem dX6_takeNext_7 : decode cX6_takeNext 7 = .ok (.if_icmp .ge 41, 3) := by decide +kernel
theorem dX6_takeNext_10 : decode cX6_takeNext 10 = .ok (.aload_n 0, 1) := by decide +kernel
theorem dX6_takeNext_11 : decode cX6_takeNext 11 = .ok (.dup, 1) := by decide +kernel
theorem dX6_takeNext_12 : decode cX6_takeNext 12 = .ok (.getfield 22, 3) := by decide +kernel
theorem dX6_takeNext_15 : decode cX6_takeNext 15 = .ok (.iconst 1, 1) := by decide +kernel
theorem dX6_takeNext_16 : decode cX6_takeNext 16 = .ok (.isub, 1) := by decide +kernel
theorem dX6_takeNext_17 : decode cX6_takeNext 17 = .ok (.putfield 22, 3) := by decide +kernel
theorem dX6_takeNext_20 : decode cX6_takeNext 20 = .ok (.aload_n 0, 1) := by decide +kernel
theorem dX6_takeNext_21 : decode cX6_takeNext 21 = .ok (.getfield 9, 3) := by decide +kernel
theorem dX6_takeNext_24 : decode cX6_takeNext 24 = .ok (.aload_n 0, 1) := by decide +kernel
theorem dX6_takeNext_25 : decode cX6_takeNext 25 = .ok (.getfield 18, 3) := by decide +kernel
theorem dX6_takeNext_28 : decode cX6_takeNext 28 = .ok (.aload_n 0, 1) := by decide +kernel
theorem dX6_takeNext_29 : decode cX6_takeNext 29 = .ok (.getfield 15, 3) := by decide +kernel
theorem dX6_takeNext_32 : decode cX6_takeNext 32 = .ok (.aload_n 0, 1) := by decide +kernel
theorem dX6_takeNext_33 : decode cX6_takeNext 33 = .ok (.getfield 22, 3) := by decide +kernel
theorem dX6_takeNext_36 : decode cX6_takeNext 36 = .ok (.iaload, 1) := by decide +kernel
theorem dX6_takeNext_37 : decode cX6_takeNext 37 = .ok (.iastore, 1) := by decide +kernel
theorem dX6_takeNext_38 : decode cX6_takeNext 38 = .ok (.aload_n 0, 1) := by decide +kernel
theorem dX6_takeNext_39 : decode cX6_takeNext 39 = .ok (.dup, 1) := by decide +kernel
theorem dX6_takeNext_40 : decode cX6_takeNext 40 = .ok (.getfield 18, 3) := by decide +kernel
theorem dX6_takeNext_43 : decode cX6_takeNext 43 = .ok (.iconst 1, 1) := by decide +kernel
theorem dX6_takeNext_44 : decode cX6_takeNext 44 = .ok (.iadd, 1) := by decide +kernel
theorem dX6_takeNext_45 : decode cX6_takeNext 45 = .ok (.putfield 18, 3) := by decide +kernel
theorem dX6_takeNext_48 : decode cX6_takeNext 48 = .ok (.return_, 1) := by decide +kernel
theorem dX6_reduce_0 : decode cX6_reduce 0 = .ok (.aload_n 0, 1) := by decide +kernel
theorem dX6_reduce_1 : decode cX6_reduce 1 = .ok (.getfield 9, 3) := by decide +kernel
theorem dX6_reduce_4 : decode cX6_reduce 4 = .ok (.iload_n 1, 1) := by decide +kernel
theorem dX6_reduce_5 : decode cX6_reduce 5 = .ok (.iaload, 1) := by decide +kernel
theorem dX6_reduce_6 : decode cX6_reduce 6 = .ok (.istore_n 2, 1) := by decide +kernel
theorem dX6_reduce_7 : decode cX6_reduce 7 = .ok (.iload_n 2, 1) := by decide +kernel
theorem dX6_reduce_8 : decode cX6_reduce 8 = .ok (.invokestatic 54, 3) := by decide +kernel
theorem dX6_reduce_11 : decode cX6_reduce 11 = .ok (.istore_n 3, 1) := by decide +kernel
theorem dX6_reduce_12 : decode cX6_reduce 12 = .ok (.aload_n 0, 1) := by decide +kernel
theorem dX6_reduce_13 : decode cX6_reduce 13 = .ok (.getfield 18, 3) := by decide +kernel
theorem dX6_reduce_16 : decode cX6_reduce 16 = .ok (.aload_n 0, 1) := by decide +kernel
theorem dX6_reduce_17 : decode cX6_reduce 17 = .ok (.getfield 22, 3) := by decide +kernel
theorem dX6_reduce_20 : decode cX6_reduce 20 = .ok (.iadd, 1) := by decide +kernel
theorem dX6_reduce_21 : decode cX6_reduce 21 = .ok (.iconst 2, 1) := by decide +kernel
theorem dX6_reduce_22 : decode cX6_reduce 22 = .ok (.isub, 1) := by decide +kernel
theorem dX6_reduce_23 : decode cX6_reduce 23 = .ok (.iconst 2, 1) := by decide +kernel
theorem dX6_reduce_24 : decode cX6_reduce 24 = .ok (.aload_n 0, 1) := by decide +kernel
theorem dX6_reduce_25 : decode cX6_reduce 25 = .ok (.iload_n 1, 1) := by decide +kernel
theorem dX6_reduce_26 : decode cX6_reduce 26 = .ok (.iload_n 3, 1) := by decide +kernel
theorem dX6_reduce_27 : decode cX6_reduce 27 = .ok (.iconst 1, 1) := by decide +kernel
theorem dX6_reduce_28 : decode cX6_reduce 28 = .ok (.iadd, 1) := by decide +kernel
theorem dX6_reduce_29 : decode cX6_reduce 29 = .ok (.invokevirtual 73, 3) := by decide +kernel
theorem dX6_reduce_32 : decode cX6_reduce 32 = .ok (.imul, 1) := by decide +kernel
theorem dX6_reduce_33 : decode cX6_reduce 33 = .ok (.iadd, 1) := by decide +kernel
theorem dX6_reduce_34 : decode cX6_reduce 34 = .ok (.istore 4, 2) := by decide +kernel
theorem dX6_reduce_36 : decode cX6_reduce 36 = .ok (.aload_n 0, 1) := by decide +kernel
theorem dX6_reduce_37 : decode cX6_reduce 37 = .ok (.getfield 25, 3) := by decide +kernel
theorem dX6_reduce_40 : decode cX6_reduce 40 = .ok (.sipush 2000, 3) := by decide +kernel
theorem dX6_reduce_43 : decode cX6_reduce 43 = .ok (.if_icmp .ge 11, 3) := by decide +kernel
theorem dX6_reduce_46 : decode cX6_reduce 46 = .ok (.iload 4, 2) := by decide +kernel
theorem dX6_reduce_48 : decode cX6_reduce 48 = .ok (.sipush 400, 3) := by decide +kernel
theorem dX6_reduce_51 : decode cX6_reduce 51 = .ok (.if_icmp .le 9, 3) := by decide +kernel
theorem dX6_reduce_54 : decode cX6_reduce 54 = .ok (.aload_n 0, 1) := by decide +kernel
theorem dX6_reduce_55 : decode cX6_reduce 55 = .ok (.iconst 1, 1) := by decide +kernel
theorem dX6_reduce_56 : decode cX6_reduce 56 = .ok (.putfield 28, 3) := by decide +kernel
theorem dX6_reduce_59 : decode cX6_reduce 59 = .ok (.return_, 1) := by decide +kernel
theorem dX6_reduce_60 : decode cX6_reduce 60 = .ok (.aload_n 0, 1) := by decide +kernel
theorem dX6_reduce_61 : decode cX6_reduce 61 = .ok (.dup, 1) := by decide +kernel
theorem dX6_reduce_62 : decode cX6_reduce 62 = .ok (.getfield 25, 3) := by decide +kernel
theorem dX6_reduce_65 : decode cX6_reduce 65 = .ok (.iconst 1, 1) := by decide +kernel
theorem dX6_reduce_66 : decode cX6_reduce 66 = .ok (.iadd, 1) := by decide +kernel
theorem dX6_reduce_67 : decode cX6_reduce 67 = .ok (.putfield 25, 3) := by decide +kernel
theorem dX6_reduce_70 : decode cX6_reduce 70 = .ok (.aload_n 0, 1) := by decide +kernel
theorem dX6_reduce_71 : decode cX6_reduce 71 = .ok (.getfield 18, 3) := by decide +kernel
theorem dX6_reduce_74 : decode cX6_reduce 74 = .ok (.iconst 2, 1) := by decide +kernel
theorem dX6_reduce_75 : decode cX6_reduce 75 = .ok (.isub, 1) := by decide +kernel
theorem dX6_reduce_76 : decode cX6_reduce 76 = .ok (.istore 5, 2) := by decide +kernel
theorem dX6_reduce_78 : decode cX6_reduce 78 = .ok (.iload 5, 2) := by decide +kernel
theorem dX6_reduce_80 : decode cX6_reduce 80 = .ok (.iload_n 1, 1) := by decide +kernel
theorem dX6_reduce_81 : decode cX6_reduce 81 = .ok (.if_icmp .le 83, 3) := by decide +kernel
theorem dX6_reduce_84 : decode cX6_reduce 84 = .ok (.aload_n 0, 1) := by decide +kernel
theorem dX6_reduce_85 : decode cX6_reduce 85 = .ok (.getfield 9, 3) := by decide +kernel
theorem dX6_reduce_88 : decode cX6_reduce 88 = .ok (.iload 5, 2) := by decide +kernel
theorem dX6_reduce_90 : decode cX6_reduce 90 = .ok (.iaload, 1) := by decide +kernel
theorem dX6_reduce_91 : decode cX6_reduce 91 = .ok (.invokestatic 54, 3) := by decide +kernel
theorem dX6_reduce_94 : decode cX6_reduce 94 = .ok (.iload_n 3, 1) := by decide +kernel
theorem dX6_reduce_95 : decode cX6_reduce 95 = .ok (.iconst 1, 1) := by decide +kernel
theorem dX6_reduce_96 : decode cX6_reduce 96 = .ok (.iadd, 1) := by decide +kernel
theorem dX6_reduce_97 : decode cX6_reduce 97 = .ok (.if_icmp .ne 50, 3) := by decide +kernel
theorem dX6_reduce_100 : decode cX6_reduce 100 = .ok (.aload_n 0, 1) := by decide +kernel
theorem dX6_reduce_101 : decode cX6_reduce 101 = .ok (.iload_n 2, 1) := by decide +kernel
theorem dX6_reduce_102 : decode cX6_reduce 102 = .ok (.i2l, 1) := by decide +kernel
theorem dX6_reduce_103 : decode cX6_reduce 103 = .ok (.invokestatic 58, 3) := by decide +kernel
theorem dX6_reduce_106 : decode cX6_reduce 106 = .ok (.iload_n 3, 1) := by decide +kernel
theorem dX6_reduce_107 : decode cX6_reduce 107 = .ok (.iconst 1, 1) := by decide +kernel
theorem dX6_reduce_108 : decode cX6_reduce 108 = .ok (.iadd, 1) := by decide +kernel
theorem dX6_reduce_109 : decode cX6_reduce 109 = .ok (.imul, 1) := by decide +kernel
theorem dX6_reduce_110 : decode cX6_reduce 110 = .ok (.invokevirtual 50, 3) := by decide +kernel
theorem dX6_reduce_113 : decode cX6_reduce 113 = .ok (.aload_n 0, 1) := by decide +kernel
theorem dX6_reduce_114 : decode cX6_reduce 114 = .ok (.aload_n 0, 1) := by decide +kernel
theorem dX6_reduce_115 : decode cX6_reduce 115 = .ok (.getfield 9, 3) := by decide +kernel
theorem dX6_reduce_118 : decode cX6_reduce 118 = .ok (.iload 5, 2) := by decide +kernel
theorem dX6_reduce_120 : decode cX6_reduce 120 = .ok (.iaload, 1) := by decide +kernel
theorem dX6_reduce_121 : decode cX6_reduce 121 = .ok (.i2l, 1) := by decide +kernel
theorem dX6_reduce_122 : decode cX6_reduce 122 = .ok (.invokestatic 58, 3) := by decide +kernel
theorem dX6_reduce_125 : decode cX6_reduce 125 = .ok (.iload_n 3, 1) := by decide +kernel
theorem dX6_reduce_126 : decode cX6_reduce 126 = .ok (.imul, 1) := by decide +kernel
theorem dX6_reduce_127 : decode cX6_reduce 127 = .ok (.invokevirtual 50, 3) := by decide +kernel
theorem dX6_reduce_130 : decode cX6_reduce 130 = .ok (.aload_n 0, 1) := by decide +kernel
theorem dX6_reduce_131 : decode cX6_reduce 131 = .ok (.iload_n 2, 1) := by decide +kernel
theorem dX6_reduce_132 : decode cX6_reduce 132 = .ok (.i2l, 1) := by decide +kernel
theorem dX6_reduce_133 : decode cX6_reduce 133 = .ok (.invokestatic 58, 3) := by decide +kernel
theorem dX6_reduce_136 : decode cX6_reduce 136 = .ok (.ineg, 1) := by decide +kernel
theorem dX6_reduce_137 : decode cX6_reduce 137 = .ok (.iload_n 3, 1) := by decide +kernel
theorem dX6_reduce_138 : decode cX6_reduce 138 = .ok (.iconst 1, 1) := by decide +kernel
theorem dX6_reduce_139 : decode cX6_reduce 139 = .ok (.iadd, 1) := by decide +kernel
theorem dX6_reduce_140 : decode cX6_reduce 140 = .ok (.imul, 1) := by decide +kernel
theorem dX6_reduce_141 : decode cX6_reduce 141 = .ok (.invokevirtual 50, 3) := by decide +kernel
theorem dX6_reduce_144 : decode cX6_reduce 144 = .ok (.goto 14, 3) := by decide +kernel
theorem dX6_reduce_147 : decode cX6_reduce 147 = .ok (.aload_n 0, 1) := by decide +kernel
theorem dX6_reduce_148 : decode cX6_reduce 148 = .ok (.aload_n 0, 1) := by decide +kernel
theorem dX6_reduce_149 : decode cX6_reduce 149 = .ok (.getfield 9, 3) := by decide +kernel
theorem dX6_reduce_152 : decode cX6_reduce 152 = .ok (.iload 5, 2) := by decide +kernel
theorem dX6_reduce_154 : decode cX6_reduce 154 = .ok (.iaload, 1) := by decide +kernel
theorem dX6_reduce_155 : decode cX6_reduce 155 = .ok (.invokevirtual 50, 3) := by decide +kernel
theorem dX6_reduce_158 : decode cX6_reduce 158 = .ok (.iinc 5 (-1), 3) := by decide +kernel
theorem dX6_reduce_161 : decode cX6_reduce 161 = .ok (.goto (-83), 3) := by decide +kernel
theorem dX6_reduce_164 : decode cX6_reduce 164 = .ok (.aload_n 0, 1) := by decide +kernel
theorem dX6_reduce_165 : decode cX6_reduce 165 = .ok (.iload_n 1, 1) := by decide +kernel
theorem dX6_reduce_166 : decode cX6_reduce 166 = .ok (.putfield 18, 3) := by decide +kernel
theorem dX6_reduce_169 : decode cX6_reduce 169 = .ok (.return_, 1) := by decide +kernel
theorem dX6_countInside_0 : decode cX6_countInside 0 = .ok (.iconst 0, 1) := by decide +kernel
theorem dX6_countInside_1 : decode cX6_countInside 1 = .ok (.istore_n 3, 1) := by decide +kernel
theorem dX6_countInside_2 : decode cX6_countInside 2 = .ok (.iload_n 1, 1) := by decide +kernel
theorem dX6_countInside_3 : decode cX6_countInside 3 = .ok (.iconst 1, 1) := by decide +kernel
theorem dX6_countInside_4 : decode cX6_countInside 4 = .ok (.iadd, 1) := by decide +kernel
theorem dX6_countInside_5 : decode cX6_countInside 5 = .ok (.istore 4, 2) := by decide +kernel
theorem dX6_countInside_7 : decode cX6_countInside 7 = .ok (.iload 4, 2) := by decide +kernel
theorem dX6_countInside_9 : decode cX6_countInside 9 = .ok (.aload_n 0, 1) := by decide +kernel
theorem dX6_countInside_10 : decode cX6_countInside 10 = .ok (.getfield 18, 3) := by decide +kernel
theorem dX6_countInside_13 : decode cX6_countInside 13 = .ok (.iconst 1, 1) := by decide +kernel
theorem dX6_countInside_14 : decode cX6_countInside 14 = .ok (.isub, 1) := by decide +kernel
theorem dX6_countInside_15 : decode cX6_countInside 15 = .ok (.if_icmp .ge 35, 3) := by decide +kernel
theorem dX6_countInside_18 : decode cX6_countInside 18 = .ok (.aload_n 0, 1) := by decide +kernel
theorem dX6_countInside_19 : decode cX6_countInside 19 = .ok (.getfield 9, 3) := by decide +kernel
theorem dX6_countInside_22 : decode cX6_countInside 22 = .ok (.iload 4, 2) := by decide +kernel
theorem dX6_countInside_24 : decode cX6_countInside 24 = .ok (.iaload, 1) := by decide +kernel
theorem dX6_countInside_25 : decode cX6_countInside 25 = .ok (.iload_n 2, 1) := by decide +kernel
theorem dX6_countInside_26 : decode cX6_countInside 26 = .ok (.if_icmp .eq 15, 3) := by decide +kernel
theorem dX6_countInside_29 : decode cX6_countInside 29 = .ok (.aload_n 0, 1) := by decide +kernel
theorem dX6_countInside_30 : decode cX6_countInside 30 = .ok (.getfield 9, 3) := by decide +kernel
theorem dX6_countInside_33 : decode cX6_countInside 33 = .ok (.iload 4, 2) := by decide +kernel
theorem dX6_countInside_35 : decode cX6_countInside 35 = .ok (.iaload, 1) := by decide +kernel
theorem dX6_countInside_36 : decode cX6_countInside 36 = .ok (.iload_n 2, 1) := by decide +kernel
theorem dX6_countInside_37 : decode cX6_countInside 37 = .ok (.ineg, 1) := by decide +kernel
theorem dX6_countInside_38 : decode cX6_countInside 38 = .ok (.if_icmp .ne 6, 3) := by decide +kernel
theorem dX6_countInside_41 : decode cX6_countInside 41 = .ok (.iinc 3 1, 3) := by decide +kernel
theorem dX6_countInside_44 : decode cX6_countInside 44 = .ok (.iinc 4 1, 3) := by decide +kernel
theorem dX6_countInside_47 : decode cX6_countInside 47 = .ok (.goto (-40), 3) := by decide +kernel
theorem dX6_countInside_50 : decode cX6_countInside 50 = .ok (.iload_n 3, 1) := by decide +kernel
theorem dX6_countInside_51 : decode cX6_countInside 51 = .ok (.ireturn, 1) := by decide +kernel
theorem dX8_init_0 : decode cX8_init 0 = .ok (.aload_n 0, 1) := by decide +kernel
theorem dX8_init_1 : decode cX8_init 1 = .ok (.invokespecial 3, 3) := by decide +kernel
theorem dX8_init_4 : decode cX8_init 4 = .ok (.aload_n 0, 1) := by decide +kernel
theorem dX8_init_5 : decode cX8_init 5 = .ok (.bipush 16, 2) := by decide +kernel
theorem dX8_init_7 : decode cX8_init 7 = .ok (.newarray .int, 2) := by decide +kernel
theorem dX8_init_9 : decode cX8_init 9 = .ok (.putfield 9, 3) := by decide +kernel
theorem dX8_init_12 : decode cX8_init 12 = .ok (.aload_n 0, 1) := by decide +kernel
theorem dX8_init_13 : decode cX8_init 13 = .ok (.iconst 0, 1) := by decide +kernel
theorem dX8_init_14 : decode cX8_init 14 = .ok (.putfield 15, 3) := by decide +kernel
theorem dX8_init_17 : decode cX8_init 17 = .ok (.return_, 1) := by decide +kernel
theorem dX8_isFull_0 : decode cX8_isFull 0 = .ok (.aload_n 0, 1) := by decide +kernel
theorem dX8_isFull_1 : decode cX8_isFull 1 = .ok (.getfield 15, 3) := by decide +kernel
theorem dX8_isFull_4 : decode cX8_isFull 4 = .ok (.bipush 16, 2) := by decide +kernel
theorem dX8_isFull_6 : decode cX8_isFull 6 = .ok (.if_icmp .lt 7, 3) := by decide +kernel
theorem dX8_isFull_9 : decode cX8_isFull 9 = .ok (.iconst 1, 1) := by decide +kernel
theorem dX8_isFull_10 : decode cX8_isFull 10 = .ok (.goto 4, 3) := by decide +kernel
theorem dX8_isFull_13 : decode cX8_isFull 13 = .ok (.iconst 0, 1) := by decide +kernel
theorem dX8_isFull_14 : decode cX8_isFull 14 = .ok (.ireturn, 1) := by decide +kernel
theorem dX8_append_0 : decode cX8_append 0 = .ok (.aload_n 0, 1) := by decide +kernel
theorem dX8_append_1 : decode cX8_append 1 = .ok (.getfield 15, 3) := by decide +kernel
theorem dX8_append_4 : decode cX8_append 4 = .ok (.bipush 16, 2) := by decide +kernel
theorem dX8_append_6 : decode cX8_append 6 = .ok (.if_icmp .ge 23, 3) := by decide +kernel
theorem dX8_append_9 : decode cX8_append 9 = .ok (.aload_n 0, 1) := by decide +kernel
theorem dX8_append_10 : decode cX8_append 10 = .ok (.getfield 9, 3) := by decide +kernel
theorem dX8_append_13 : decode cX8_append 13 = .ok (.aload_n 0, 1) := by decide +kernel
theorem dX8_append_14 : decode cX8_append 14 = .ok (.getfield 15, 3) := by decide +kernel
theorem dX8_append_17 : decode cX8_append 17 = .ok (.iload_n 1, 1) := by decide +kernel
theorem dX8_append_18 : decode cX8_append 18 = .ok (.iastore, 1) := by decide +kernel
theorem dX8_append_19 : decode cX8_append 19 = .ok (.aload_n 0, 1) := by decide +kernel
theorem dX8_append_20 : decode cX8_append 20 = .ok (.dup, 1) := by decide +kernel
theorem dX8_append_21 : decode cX8_append 21 = .ok (.getfield 15, 3) := by decide +kernel
theorem dX8_append_24 : decode cX8_append 24 = .ok (.iconst 1, 1) := by decide +kernel
theorem dX8_append_25 : decode cX8_append 25 = .ok (.iadd, 1) := by decide +kernel
theorem dX8_append_26 : decode cX8_append 26 = .ok (.putfield 15, 3) := by decide +kernel
theorem dX8_append_29 : decode cX8_append 29 = .ok (.return_, 1) := by decide +kernel
theorem dX8_removeLast_0 : decode cX8_removeLast 0 = .ok (.aload_n 0, 1) := by decide +kernel
theorem dX8_removeLast_1 : decode cX8_removeLast 1 = .ok (.getfield 15, 3) := by decide +kernel
theorem dX8_removeLast_4 : decode cX8_removeLast 4 = .ok (.ifCond .ne 5, 3) := by decide +kernel
theorem dX8_removeLast_7 : decode cX8_removeLast 7 = .ok (.iconst 0, 1) := by decide +kernel
theorem dX8_removeLast_8 : decode cX8_removeLast 8 = .ok (.ireturn, 1) := by decide +kernel
theorem dX8_removeLast_9 : decode cX8_removeLast 9 = .ok (.aload_n 0, 1) := by decide +kernel
theorem dX8_removeLast_10 : decode cX8_removeLast 10 = .ok (.dup, 1) := by decide +kernel
theorem dX8_removeLast_11 : decode cX8_removeLast 11 = .ok (.getfield 15, 3) := by decide +kernel
theorem dX8_removeLast_14 : decode cX8_removeLast 14 = .ok (.iconst 1, 1) := by decide +kernel
theorem dX8_removeLast_15 : decode cX8_removeLast 15 = .ok (.isub, 1) := by decide +kernel
theorem dX8_removeLast_16 : decode cX8_removeLast 16 = .ok (.putfield 15, 3) := by decide +kernel
theorem dX8_removeLast_19 : decode cX8_removeLast 19 = .ok (.aload_n 0, 1) := by decide +kernel
theorem dX8_removeLast_20 : decode cX8_removeLast 20 = .ok (.getfield 9, 3) := by decide +kernel
theorem dX8_removeLast_23 : decode cX8_removeLast 23 = .ok (.aload_n 0, 1) := by decide +kernel
theorem dX8_removeLast_24 : decode cX8_removeLast 24 = .ok (.getfield 15, 3) := by decide +kernel
theorem dX8_removeLast_27 : decode cX8_removeLast 27 = .ok (.iaload, 1) := by decide +kernel
theorem dX8_removeLast_28 : decode cX8_removeLast 28 = .ok (.ireturn, 1) := by decide +kernel
theorem dX8_removePairs_0 : decode cX8_removePairs 0 = .ok (.iconst 0, 1) := by decide +kernel
theorem dX8_removePairs_1 : decode cX8_removePairs 1 = .ok (.istore_n 1, 1) := by decide +kernel
theorem dX8_removePairs_2 : decode cX8_removePairs 2 = .ok (.iconst 0, 1) := by decide +kernel
theorem dX8_removePairs_3 : decode cX8_removePairs 3 = .ok (.istore_n 2, 1) := by decide +kernel
theorem dX8_removePairs_4 : decode cX8_removePairs 4 = .ok (.iload_n 2, 1) := by decide +kernel
theorem dX8_removePairs_5 : decode cX8_removePairs 5 = .ok (.aload_n 0, 1) := by decide +kernel
theorem dX8_removePairs_6 : decode cX8_removePairs 6 = .ok (.getfield 15, 3) := by decide +kernel
theorem dX8_removePairs_9 : decode cX8_removePairs 9 = .ok (.if_icmp .ge 52, 3) := by decide +kernel
theorem dX8_removePairs_12 : decode cX8_removePairs 12 = .ok (.iload_n 1, 1) := by decide +kernel
theorem dX8_removePairs_13 : decode cX8_removePairs 13 = .ok (.ifCond .le 27, 3) := by decide +kernel
theorem dX8_removePairs_16 : decode cX8_removePairs 16 = .ok (.aload_n 0, 1) := by decide +kernel
theorem dX8_removePairs_17 : decode cX8_removePairs 17 = .ok (.getfield 9, 3) := by decide +kernel
theorem dX8_removePairs_20 : decode cX8_removePairs 20 = .ok (.iload_n 1, 1) := by decide +kernel
theorem dX8_removePairs_21 : decode cX8_removePairs 21 = .ok (.iconst 1, 1) := by decide +kernel
theorem dX8_removePairs_22 : decode cX8_removePairs 22 = .ok (.isub, 1) := by decide +kernel
theorem dX8_removePairs_23 : decode cX8_removePairs 23 = .ok (.iaload, 1) := by decide +kernel
theorem dX8_removePairs_24 : decode cX8_removePairs 24 = .ok (.aload_n 0, 1) := by decide +kernel
theorem dX8_removePairs_25 : decode cX8_removePairs 25 = .ok (.getfield 9, 3) := by decide +kernel
theorem dX8_removePairs_28 : decode cX8_removePairs 28 = .ok (.iload_n 2, 1) := by decide +kernel
theorem dX8_removePairs_29 : decode cX8_removePairs 29 = .ok (.iaload, 1) := by decide +kernel
theorem dX8_removePairs_30 : decode cX8_removePairs 30 = .ok (.ineg, 1) := by decide +kernel
theorem dX8_removePairs_31 : decode cX8_removePairs 31 = .ok (.if_icmp .ne 9, 3) := by decide +kernel
theorem dX8_removePairs_34 : decode cX8_removePairs 34 = .ok (.iinc 1 (-1), 3) := by decide +kernel
theorem dX8_removePairs_37 : decode cX8_removePairs 37 = .ok (.goto 18, 3) := by decide +kernel
theorem dX8_removePairs_40 : decode cX8_removePairs 40 = .ok (.aload_n 0, 1) := by decide +kernel
theorem dX8_removePairs_41 : decode cX8_removePairs 41 = .ok (.getfield 9, 3) := by decide +kernel
theorem dX8_removePairs_44 : decode cX8_removePairs 44 = .ok (.iload_n 1, 1) := by decide +kernel
theorem dX8_removePairs_45 : decode cX8_removePairs 45 = .ok (.aload_n 0, 1) := by decide +kernel
theorem dX8_removePairs_46 : decode cX8_removePairs 46 = .ok (.getfield 9, 3) := by decide +kernel
theorem dX8_removePairs_49 : decode cX8_removePairs 49 = .ok (.iload_n 2, 1) := by decide +kernel
theorem dX8_removePairs_50 : decode cX8_removePairs 50 = .ok (.iaload, 1) := by decide +kernel
theorem dX8_removePairs_51 : decode cX8_removePairs 51 = .ok (.iastore, 1) := by decide +kernel
theorem dX8_removePairs_52 : decode cX8_removePairs 52 = .ok (.iinc 1 1, 3) := by decide +kernel
theorem dX8_removePairs_55 : decode cX8_removePairs 55 = .ok (.iinc 2 1, 3) := by decide +kernel
theorem dX8_removePairs_58 : decode cX8_removePairs 58 = .ok (.goto (-54), 3) := by decide +kernel
theorem dX8_removePairs_61 : decode cX8_removePairs 61 = .ok (.aload_n 0, 1) := by decide +kernel
theorem dX8_removePairs_62 : decode cX8_removePairs 62 = .ok (.getfield 15, 3) := by decide +kernel
theorem dX8_removePairs_65 : decode cX8_removePairs 65 = .ok (.iload_n 1, 1) := by decide +kernel
theorem dX8_removePairs_66 : decode cX8_removePairs 66 = .ok (.isub, 1) := by decide +kernel
theorem dX8_removePairs_67 : decode cX8_removePairs 67 = .ok (.istore_n 2, 1) := by decide +kernel
theorem dX8_removePairs_68 : decode cX8_removePairs 68 = .ok (.aload_n 0, 1) := by decide +kernel
theorem dX8_removePairs_69 : decode cX8_removePairs 69 = .ok (.iload_n 1, 1) := by decide +kernel
theorem dX8_removePairs_70 : decode cX8_removePairs 70 = .ok (.putfield 15, 3) := by decide +kernel
theorem dX8_removePairs_73 : decode cX8_removePairs 73 = .ok (.iload_n 2, 1) := by decide +kernel
theorem dX8_removePairs_74 : decode cX8_removePairs 74 = .ok (.ireturn, 1) := by decide +kernel
theorem dX8_endOfFirstHandle_0 : decode cX8_endOfFirstHandle 0 = .ok (.iconst 0, 1) := by decide +kernel
theorem dX8_endOfFirstHandle_1 : decode cX8_endOfFirstHandle 1 = .ok (.istore_n 1, 1) := by decide +kernel
theorem dX8_endOfFirstHandle_2 : decode cX8_endOfFirstHandle 2 = .ok (.iload_n 1, 1) := by decide +kernel
theorem dX8_endOfFirstHandle_3 : decode cX8_endOfFirstHandle 3 = .ok (.aload_n 0, 1) := by decide +kernel
theorem dX8_endOfFirstHandle_4 : decode cX8_endOfFirstHandle 4 = .ok (.getfield 15, 3) := by decide +kernel
theorem dX8_endOfFirstHandle_7 : decode cX8_endOfFirstHandle 7 = .ok (.if_icmp .ge 23, 3) := by decide +kernel
theorem dX8_endOfFirstHandle_10 : decode cX8_endOfFirstHandle 10 = .ok (.aload_n 0, 1) := by decide +kernel
theorem dX8_endOfFirstHandle_11 : decode cX8_endOfFirstHandle 11 = .ok (.getfield 9, 3) := by decide +kernel
theorem dX8_endOfFirstHandle_14 : decode cX8_endOfFirstHandle 14 = .ok (.iload_n 1, 1) := by decide +kernel
theorem dX8_endOfFirstHandle_15 : decode cX8_endOfFirstHandle 15 = .ok (.invokestatic 19, 3) := by decide +kernel
theorem dX8_endOfFirstHandle_18 : decode cX8_endOfFirstHandle 18 = .ok (.iconst (-1), 1) := by decide +kernel
theorem dX8_endOfFirstHandle_19 : decode cX8_endOfFirstHandle 19 = .ok (.if_icmp .eq 5, 3) := by decide +kernel
theorem dX8_endOfFirstHandle_22 : decode cX8_endOfFirstHandle 22 = .ok (.iload_n 1, 1) := by decide +kernel
theorem dX8_endOfFirstHandle_23 : decode cX8_endOfFirstHandle 23 = .ok (.ireturn, 1) := by decide +kernel
theorem dX8_endOfFirstHandle_24 : decode cX8_endOfFirstHandle 24 = .ok (.iinc 1 1, 3) := by decide +kernel
theorem dX8_endOfFirstHandle_27 : decode cX8_endOfFirstHandle 27 = .ok (.goto (-25), 3) := by decide +kernel
theorem dX8_endOfFirstHandle_30 : decode cX8_endOfFirstHandle 30 = .ok (.iconst (-1), 1) := by decide +kernel
theorem dX8_endOfFirstHandle_31 : decode cX8_endOfFirstHandle 31 = .ok (.ireturn, 1) := by decide +kernel
theorem dX8_sumOfSigns_0 : decode cX8_sumOfSigns 0 = .ok (.iconst 0, 1) := by decide +kernel
theorem dX8_sumOfSigns_1 : decode cX8_sumOfSigns 1 = .ok (.istore_n 1, 1) := by decide +kernel
theorem dX8_sumOfSigns_2 : decode cX8_sumOfSigns 2 = .ok (.iconst 0, 1) := by decide +kernel
theorem dX8_sumOfSigns_3 : decode cX8_sumOfSigns 3 = .ok (.istore_n 2, 1) := by decide +kernel
theorem dX8_sumOfSigns_4 : decode cX8_sumOfSigns 4 = .ok (.iload_n 2, 1) := by decide +kernel
theorem dX8_sumOfSigns_5 : decode cX8_sumOfSigns 5 = .ok (.aload_n 0, 1) := by decide +kernel
theorem dX8_sumOfSigns_6 : decode cX8_sumOfSigns 6 = .ok (.getfield 15, 3) := by decide +kernel
theorem dX8_sumOfSigns_9 : decode cX8_sumOfSigns 9 = .ok (.if_icmp .ge 22, 3) := by decide +kernel
theorem dX8_sumOfSigns_12 : decode cX8_sumOfSigns 12 = .ok (.iload_n 1, 1) := by decide +kernel
theorem dX8_sumOfSigns_13 : decode cX8_sumOfSigns 13 = .ok (.aload_n 0, 1) := by decide +kernel
theorem dX8_sumOfSigns_14 : decode cX8_sumOfSigns 14 = .ok (.getfield 9, 3) := by decide +kernel
theorem dX8_sumOfSigns_17 : decode cX8_sumOfSigns 17 = .ok (.iload_n 2, 1) := by decide +kernel
theorem dX8_sumOfSigns_18 : decode cX8_sumOfSigns 18 = .ok (.iaload, 1) := by decide +kernel
theorem dX8_sumOfSigns_19 : decode cX8_sumOfSigns 19 = .ok (.i2l, 1) := by decide +kernel
theorem dX8_sumOfSigns_20 : decode cX8_sumOfSigns 20 = .ok (.invokestatic 23, 3) := by decide +kernel
theorem dX8_sumOfSigns_23 : decode cX8_sumOfSigns 23 = .ok (.iadd, 1) := by decide +kernel
theorem dX8_sumOfSigns_24 : decode cX8_sumOfSigns 24 = .ok (.istore_n 1, 1) := by decide +kernel
theorem dX8_sumOfSigns_25 : decode cX8_sumOfSigns 25 = .ok (.iinc 2 1, 3) := by decide +kernel
theorem dX8_sumOfSigns_28 : decode cX8_sumOfSigns 28 = .ok (.goto (-24), 3) := by decide +kernel
theorem dX8_sumOfSigns_31 : decode cX8_sumOfSigns 31 = .ok (.iload_n 1, 1) := by decide +kernel
theorem dX8_sumOfSigns_32 : decode cX8_sumOfSigns 32 = .ok (.ireturn, 1) := by decide +kernel
theorem dX8_endOf_0 : decode cX8_endOf 0 = .ok (.iload_n 1, 1) := by decide +kernel
theorem dX8_endOf_1 : decode cX8_endOf 1 = .ok (.istore_n 2, 1) := by decide +kernel
theorem dX8_endOf_2 : decode cX8_endOf 2 = .ok (.iconst 0, 1) := by decide +kernel
theorem dX8_endOf_3 : decode cX8_endOf 3 = .ok (.istore_n 3, 1) := by decide +kernel
theorem dX8_endOf_4 : decode cX8_endOf 4 = .ok (.iload_n 3, 1) := by decide +kernel
theorem dX8_endOf_5 : decode cX8_endOf 5 = .ok (.aload_n 0, 1) := by decide +kernel
theorem dX8_endOf_6 : decode cX8_endOf 6 = .ok (.getfield 15, 3) := by decide +kernel
theorem dX8_endOf_9 : decode cX8_endOf 9 = .ok (.if_icmp .ge 23, 3) := by decide +kernel
theorem dX8_endOf_12 : decode cX8_endOf 12 = .ok (.aload_n 0, 1) := by decide +kernel
theorem dX8_endOf_13 : decode cX8_endOf 13 = .ok (.getfield 9, 3) := by decide +kernel
theorem dX8_endOf_16 : decode cX8_endOf 16 = .ok (.iload_n 3, 1) := by decide +kernel
theorem dX8_endOf_17 : decode cX8_endOf 17 = .ok (.iaload, 1) := by decide +kernel
theorem dX8_endOf_18 : decode cX8_endOf 18 = .ok (.invokestatic 27, 3) := by decide +kernel
theorem dX8_endOf_21 : decode cX8_endOf 21 = .ok (.iload_n 2, 1) := by decide +kernel
theorem dX8_endOf_22 : decode cX8_endOf 22 = .ok (.invokestatic 31, 3) := by decide +kernel
theorem dX8_endOf_25 : decode cX8_endOf 25 = .ok (.istore_n 2, 1) := by decide +kernel
theorem dX8_endOf_26 : decode cX8_endOf 26 = .ok (.iinc 3 1, 3) := by decide +kernel
theorem dX8_endOf_29 : decode cX8_endOf 29 = .ok (.goto (-25), 3) := by decide +kernel
theorem dX8_endOf_32 : decode cX8_endOf 32 = .ok (.iload_n 2, 1) := by decide +kernel
theorem dX8_endOf_33 : decode cX8_endOf 33 = .ok (.ireturn, 1) := by decide +kernel
theorem dX8_isPure_0 : decode cX8_isPure 0 = .ok (.iconst 1, 1) := by decide +kernel
theorem dX8_isPure_1 : decode cX8_isPure 1 = .ok (.istore_n 1, 1) := by decide +kernel
theorem dX8_isPure_2 : decode cX8_isPure 2 = .ok (.iload_n 1, 1) := by decide +kernel
theorem dX8_isPure_3 : decode cX8_isPure 3 = .ok (.iconst 5, 1) := by decide +kernel
theorem dX8_isPure_4 : decode cX8_isPure 4 = .ok (.if_icmp .gt 20, 3) := by decide +kernel
theorem dX8_isPure_7 : decode cX8_isPure 7 = .ok (.aload_n 0, 1) := by decide +kernel
theorem dX8_isPure_8 : decode cX8_isPure 8 = .ok (.iload_n 1, 1) := by decide +kernel
theorem dX8_isPure_9 : decode cX8_isPure 9 = .ok (.invokevirtual 35, 3) := by decide +kernel
theorem dX8_isPure_12 : decode cX8_isPure 12 = .ok (.iload_n 1, 1) := by decide +kernel
theorem dX8_isPure_13 : decode cX8_isPure 13 = .ok (.if_icmp .eq 5, 3) := by decide +kernel
theorem dX8_isPure_16 : decode cX8_isPure 16 = .ok (.iconst 0, 1) := by decide +kernel
theorem dX8_isPure_17 : decode cX8_isPure 17 = .ok (.ireturn, 1) := by decide +kernel
theorem dX8_isPure_18 : decode cX8_isPure 18 = .ok (.iinc 1 1, 3) := by decide +kernel
theorem dX8_isPure_21 : decode cX8_isPure 21 = .ok (.goto (-19), 3) := by decide +kernel
theorem dX8_isPure_24 : decode cX8_isPure 24 = .ok (.iconst 1, 1) := by decide +kernel
theorem dX8_isPure_25 : decode cX8_isPure 25 = .ok (.ireturn, 1) := by decide +kernel
theorem dX8_countCycles_0 : decode cX8_countCycles 0 = .ok (.iconst 0, 1) := by decide +kernel
theorem dX8_countCycles_1 : decode cX8_countCycles 1 = .ok (.istore_n 1, 1) := by decide +kernel
theorem dX8_countCycles_2 : decode cX8_countCycles 2 = .ok (.iconst 1, 1) := by decide +kernel
theorem dX8_countCycles_3 : decode cX8_countCycles 3 = .ok (.istore_n 2, 1) := by decide +kernel
theorem dX8_countCycles_4 : decode cX8_countCycles 4 = .ok (.iload_n 2, 1) := by decide +kernel
theorem dX8_countCycles_5 : decode cX8_countCycles 5 = .ok (.iconst 5, 1) := by decide +kernel
theorem dX8_countCycles_6 : decode cX8_countCycles 6 = .ok (.if_icmp .gt 20, 3) := by decide +kernel
theorem dX8_countCycles_9 : decode cX8_countCycles 9 = .ok (.aload_n 0, 1) := by decide +kernel
theorem dX8_countCycles_10 : decode cX8_countCycles 10 = .ok (.iload_n 2, 1) := by decide +kernel
theorem dX8_countCycles_11 : decode cX8_countCycles 11 = .ok (.invokevirtual 38, 3) := by decide +kernel
theorem dX8_countCycles_14 : decode cX8_countCycles 14 = .ok (.ifCond .eq 6, 3) := by decide +kernel
theorem dX8_countCycles_17 : decode cX8_countCycles 17 = .ok (.iinc 1 1, 3) := by decide +kernel
theorem dX8_countCycles_20 : decode cX8_countCycles 20 = .ok (.iinc 2 1, 3) := by decide +kernel
theorem dX8_countCycles_23 : decode cX8_countCycles 23 = .ok (.goto (-19), 3) := by decide +kernel
theorem dX8_countCycles_26 : decode cX8_countCycles 26 = .ok (.iload_n 1, 1) := by decide +kernel
theorem dX8_countCycles_27 : decode cX8_countCycles 27 = .ok (.ireturn, 1) := by decide +kernel
theorem dX8_isLeastOfCycle_0 : decode cX8_isLeastOfCycle 0 = .ok (.iload_n 1, 1) := by decide +kernel
theorem dX8_isLeastOfCycle_1 : decode cX8_isLeastOfCycle 1 = .ok (.istore_n 2, 1) := by decide +kernel
theorem dX8_isLeastOfCycle_2 : decode cX8_isLeastOfCycle 2 = .ok (.iconst 0, 1) := by decide +kernel
theorem dX8_isLeastOfCycle_3 : decode cX8_isLeastOfCycle 3 = .ok (.istore_n 3, 1) := by decide +kernel
theorem dX8_isLeastOfCycle_4 : decode cX8_isLeastOfCycle 4 = .ok (.iload_n 3, 1) := by decide +kernel
theorem dX8_isLeastOfCycle_5 : decode cX8_isLeastOfCycle 5 = .ok (.iconst 5, 1) := by decide +kernel
theorem dX8_isLeastOfCycle_6 : decode cX8_isLeastOfCycle 6 = .ok (.if_icmp .ge 22, 3) := by decide +kernel
theorem dX8_isLeastOfCycle_9 : decode cX8_isLeastOfCycle 9 = .ok (.aload_n 0, 1) := by decide +kernel
theorem dX8_isLeastOfCycle_10 : decode cX8_isLeastOfCycle 10 = .ok (.iload_n 2, 1) := by decide +kernel
theorem dX8_isLeastOfCycle_11 : decode cX8_isLeastOfCycle 11 = .ok (.invokevirtual 35, 3) := by decide +kernel
theorem dX8_isLeastOfCycle_14 : decode cX8_isLeastOfCycle 14 = .ok (.istore_n 2, 1) := by decide +kernel
theorem dX8_isLeastOfCycle_15 : decode cX8_isLeastOfCycle 15 = .ok (.iload_n 2, 1) := by decide +kernel
theorem dX8_isLeastOfCycle_16 : decode cX8_isLeastOfCycle 16 = .ok (.iload_n 1, 1) := by decide +kernel
theorem dX8_isLeastOfCycle_17 : decode cX8_isLeastOfCycle 17 = .ok (.if_icmp .ge 5, 3) := by decide +kernel
theorem dX8_isLeastOfCycle_20 : decode cX8_isLeastOfCycle 20 = .ok (.iconst 0, 1) := by decide +kernel
theorem dX8_isLeastOfCycle_21 : decode cX8_isLeastOfCycle 21 = .ok (.ireturn, 1) := by decide +kernel
theorem dX8_isLeastOfCycle_22 : decode cX8_isLeastOfCycle 22 = .ok (.iinc 3 1, 3) := by decide +kernel
theorem dX8_isLeastOfCycle_25 : decode cX8_isLeastOfCycle 25 = .ok (.goto (-21), 3) := by decide +kernel
theorem dX8_isLeastOfCycle_28 : decode cX8_isLeastOfCycle 28 = .ok (.iconst 1, 1) := by decide +kernel
theorem dX8_isLeastOfCycle_29 : decode cX8_isLeastOfCycle 29 = .ok (.ireturn, 1) := by decide +kernel
theorem dX8_sumOfCrossings_0 : decode cX8_sumOfCrossings 0 = .ok (.iload_n 1, 1) := by decide +kernel
theorem dX8_sumOfCrossings_1 : decode cX8_sumOfCrossings 1 = .ok (.istore_n 3, 1) := by decide +kernel
theorem dX8_sumOfCrossings_2 : decode cX8_sumOfCrossings 2 = .ok (.iload_n 2, 1) := by decide +kernel
theorem dX8_sumOfCrossings_3 : decode cX8_sumOfCrossings 3 = .ok (.istore 4, 2) := by decide +kernel
theorem dX8_sumOfCrossings_5 : decode cX8_sumOfCrossings 5 = .ok (.iconst 0, 1) := by decide +kernel
theorem dX8_sumOfCrossings_6 : decode cX8_sumOfCrossings 6 = .ok (.istore 5, 2) := by decide +kernel
theorem dX8_sumOfCrossings_8 : decode cX8_sumOfCrossings 8 = .ok (.iconst 0, 1) := by decide +kernel
theorem dX8_sumOfCrossings_9 : decode cX8_sumOfCrossings 9 = .ok (.istore 6, 2) := by decide +kernel
theorem dX8_sumOfCrossings_11 : decode cX8_sumOfCrossings 11 = .ok (.iload 6, 2) := by decide +kernel
theorem dX8_sumOfCrossings_13 : decode cX8_sumOfCrossings 13 = .ok (.aload_n 0, 1) := by decide +kernel
theorem dX8_sumOfCrossings_14 : decode cX8_sumOfCrossings 14 = .ok (.getfield 15, 3) := by decide +kernel
theorem dX8_sumOfCrossings_17 : decode cX8_sumOfCrossings 17 = .ok (.if_icmp .ge 70, 3) := by decide +kernel
theorem dX8_sumOfCrossings_20 : decode cX8_sumOfCrossings 20 = .ok (.aload_n 0, 1) := by decide +kernel
theorem dX8_sumOfCrossings_21 : decode cX8_sumOfCrossings 21 = .ok (.getfield 9, 3) := by decide +kernel
theorem dX8_sumOfCrossings_24 : decode cX8_sumOfCrossings 24 = .ok (.iload 6, 2) := by decide +kernel
theorem dX8_sumOfCrossings_26 : decode cX8_sumOfCrossings 26 = .ok (.iaload, 1) := by decide +kernel
theorem dX8_sumOfCrossings_27 : decode cX8_sumOfCrossings 27 = .ok (.invokestatic 27, 3) := by decide +kernel
theorem dX8_sumOfCrossings_30 : decode cX8_sumOfCrossings 30 = .ok (.istore 7, 2) := by decide +kernel
theorem dX8_sumOfCrossings_32 : decode cX8_sumOfCrossings 32 = .ok (.iload 7, 2) := by decide +kernel
theorem dX8_sumOfCrossings_34 : decode cX8_sumOfCrossings 34 = .ok (.iload_n 3, 1) := by decide +kernel
theorem dX8_sumOfCrossings_35 : decode cX8_sumOfCrossings 35 = .ok (.invokestatic 31, 3) := by decide +kernel
theorem dX8_sumOfCrossings_38 : decode cX8_sumOfCrossings 38 = .ok (.istore 8, 2) := by decide +kernel
theorem dX8_sumOfCrossings_40 : decode cX8_sumOfCrossings 40 = .ok (.iload_n 3, 1) := by decide +kernel
theorem dX8_sumOfCrossings_41 : decode cX8_sumOfCrossings 41 = .ok (.iload 4, 2) := by decide +kernel
theorem dX8_sumOfCrossings_43 : decode cX8_sumOfCrossings 43 = .ok (.if_icmp .eq 26, 3) := by decide +kernel
theorem dX8_sumOfCrossings_46 : decode cX8_sumOfCrossings 46 = .ok (.iload 8, 2) := by decide +kernel
theorem dX8_sumOfCrossings_48 : decode cX8_sumOfCrossings 48 = .ok (.iload 4, 2) := by decide +kernel
theorem dX8_sumOfCrossings_50 : decode cX8_sumOfCrossings 50 = .ok (.if_icmp .ne 19, 3) := by decide +kernel
theorem dX8_sumOfCrossings_53 : decode cX8_sumOfCrossings 53 = .ok (.iload 5, 2) := by decide +kernel
theorem dX8_sumOfCrossings_55 : decode cX8_sumOfCrossings 55 = .ok (.aload_n 0, 1) := by decide +kernel
theorem dX8_sumOfCrossings_56 : decode cX8_sumOfCrossings 56 = .ok (.getfield 9, 3) := by decide +kernel
theorem dX8_sumOfCrossings_59 : decode cX8_sumOfCrossings 59 = .ok (.iload 6, 2) := by decide +kernel
theorem dX8_sumOfCrossings_61 : decode cX8_sumOfCrossings 61 = .ok (.iaload, 1) := by decide +kernel
theorem dX8_sumOfCrossings_62 : decode cX8_sumOfCrossings 62 = .ok (.i2l, 1) := by decide +kernel
theorem dX8_sumOfCrossings_63 : decode cX8_sumOfCrossings 63 = .ok (.invokestatic 23, 3) := by decide +kernel
theorem dX8_sumOfCrossings_66 : decode cX8_sumOfCrossings 66 = .ok (.iadd, 1) := by decide +kernel
theorem dX8_sumOfCrossings_67 : decode cX8_sumOfCrossings 67 = .ok (.istore 5, 2) := by decide +kernel
theorem dX8_sumOfCrossings_69 : decode cX8_sumOfCrossings 69 = .ok (.iload 7, 2) := by decide +kernel
theorem dX8_sumOfCrossings_71 : decode cX8_sumOfCrossings 71 = .ok (.iload 4, 2) := by decide +kernel
theorem dX8_sumOfCrossings_73 : decode cX8_sumOfCrossings 73 = .ok (.invokestatic 31, 3) := by decide +kernel
theorem dX8_sumOfCrossings_76 : decode cX8_sumOfCrossings 76 = .ok (.istore 4, 2) := by decide +kernel
theorem dX8_sumOfCrossings_78 : decode cX8_sumOfCrossings 78 = .ok (.iload 8, 2) := by decide +kernel
theorem dX8_sumOfCrossings_80 : decode cX8_sumOfCrossings 80 = .ok (.istore_n 3, 1) := by decide +kernel
theorem dX8_sumOfCrossings_81 : decode cX8_sumOfCrossings 81 = .ok (.iinc 6 1, 3) := by decide +kernel
theorem dX8_sumOfCrossings_84 : decode cX8_sumOfCrossings 84 = .ok (.goto (-73), 3) := by decide +kernel
theorem dX8_sumOfCrossings_87 : decode cX8_sumOfCrossings 87 = .ok (.iload 5, 2) := by decide +kernel
theorem dX8_sumOfCrossings_89 : decode cX8_sumOfCrossings 89 = .ok (.ireturn, 1) := by decide +kernel
theorem dX8_copyFrom_0 : decode cX8_copyFrom 0 = .ok (.aload_n 0, 1) := by decide +kernel
theorem dX8_copyFrom_1 : decode cX8_copyFrom 1 = .ok (.aload_n 1, 1) := by decide +kernel
theorem dX8_copyFrom_2 : decode cX8_copyFrom 2 = .ok (.getfield 9, 3) := by decide +kernel
theorem dX8_copyFrom_5 : decode cX8_copyFrom 5 = .ok (.aload_n 1, 1) := by decide +kernel
theorem dX8_copyFrom_6 : decode cX8_copyFrom 6 = .ok (.getfield 15, 3) := by decide +kernel
theorem dX8_copyFrom_9 : decode cX8_copyFrom 9 = .ok (.invokevirtual 42, 3) := by decide +kernel
theorem dX8_copyFrom_12 : decode cX8_copyFrom 12 = .ok (.return_, 1) := by decide +kernel
theorem dX8_copyRow_0 : decode cX8_copyRow 0 = .ok (.aload_n 0, 1) := by decide +kernel
theorem dX8_copyRow_1 : decode cX8_copyRow 1 = .ok (.iconst 0, 1) := by decide +kernel
theorem dX8_copyRow_2 : decode cX8_copyRow 2 = .ok (.putfield 15, 3) := by decide +kernel
theorem dX8_copyRow_5 : decode cX8_copyRow 5 = .ok (.iconst 0, 1) := by decide +kernel
theorem dX8_copyRow_6 : decode cX8_copyRow 6 = .ok (.istore_n 3, 1) := by decide +kernel
theorem dX8_copyRow_7 : decode cX8_copyRow 7 = .ok (.iload_n 3, 1) := by decide +kernel
theorem dX8_copyRow_8 : decode cX8_copyRow 8 = .ok (.iload_n 2, 1) := by decide +kernel
theorem dX8_copyRow_9 : decode cX8_copyRow 9 = .ok (.if_icmp .ge 16, 3) := by decide +kernel
theorem dX8_copyRow_12 : decode cX8_copyRow 12 = .ok (.aload_n 0, 1) := by decide +kernel
theorem dX8_copyRow_13 : decode cX8_copyRow 13 = .ok (.aload_n 1, 1) := by decide +kernel
theorem dX8_copyRow_14 : decode cX8_copyRow 14 = .ok (.iload_n 3, 1) := by decide +kernel
theorem dX8_copyRow_15 : decode cX8_copyRow 15 = .ok (.iaload, 1) := by decide +kernel
theorem dX8_copyRow_16 : decode cX8_copyRow 16 = .ok (.invokevirtual 46, 3) := by decide +kernel
theorem dX8_copyRow_19 : decode cX8_copyRow 19 = .ok (.iinc 3 1, 3) := by decide +kernel
theorem dX8_copyRow_22 : decode cX8_copyRow 22 = .ok (.goto (-15), 3) := by decide +kernel
theorem dX8_copyRow_25 : decode cX8_copyRow 25 = .ok (.return_, 1) := by decide +kernel
theorem dJx00060_init_a7421_0 : decode cJx00060_init_a7421 0 = .ok (.aload_n 0, 1) := by decide +kernel
theorem dJx00060_init_a7421_1 : decode cJx00060_init_a7421 1 = .ok (.aload_n 1, 1) := by decide +kernel
theorem dJx00060_init_a7421_2 : decode cJx00060_init_a7421 2 = .ok (.invokespecial 7, 3) := by decide +kernel
theorem dJx00060_init_a7421_5 : decode cJx00060_init_a7421 5 = .ok (.return_, 1) := by decide +kernel
theorem dJx29ce0_ordinal_8abf5_0 : decode cJx29ce0_ordinal_8abf5 0 = .ok (.aload_n 0, 1) := by decide +kernel
theorem dJx29ce0_ordinal_8abf5_1 : decode cJx29ce0_ordinal_8abf5 1 = .ok (.getfield 7, 3) := by decide +kernel
theorem dJx29ce0_ordinal_8abf5_4 : decode cJx29ce0_ordinal_8abf5 4 = .ok (.ireturn, 1) := by decide +kernel
theorem dJ9_max_7cf53_0 : decode cJ9_max_7cf53 0 = .ok (.iload_n 0, 1) := by decide +kernel
theorem dJ9_max_7cf53_1 : decode cJ9_max_7cf53 1 = .ok (.iload_n 1, 1) := by decide +kernel
theorem dJ9_max_7cf53_2 : decode cJ9_max_7cf53 2 = .ok (.if_icmp .lt 7, 3) := by decide +kernel
theorem dJ9_max_7cf53_5 : decode cJ9_max_7cf53 5 = .ok (.iload_n 0, 1) := by decide +kernel
theorem dJ9_max_7cf53_6 : decode cJ9_max_7cf53 6 = .ok (.goto 4, 3) := by decide +kernel
theorem dJ9_max_7cf53_9 : decode cJ9_max_7cf53 9 = .ok (.iload_n 1, 1) := by decide +kernel
theorem dJ9_max_7cf53_10 : decode cJ9_max_7cf53 10 = .ok (.ireturn, 1) := by decide +kernel
theorem dJ9_max_f86c9_0 : decode cJ9_max_f86c9 0 = .ok (.lload_n 0, 1) := by decide +kernel
theorem dJ9_max_f86c9_1 : decode cJ9_max_f86c9 1 = .ok (.lload_n 2, 1) := by decide +kernel
theorem dJ9_max_f86c9_2 : decode cJ9_max_f86c9 2 = .ok (.lcmp, 1) := by decide +kernel
theorem dJ9_max_f86c9_3 : decode cJ9_max_f86c9 3 = .ok (.ifCond .lt 7, 3) := by decide +kernel
theorem dJ9_max_f86c9_6 : decode cJ9_max_f86c9 6 = .ok (.lload_n 0, 1) := by decide +kernel
theorem dJ9_max_f86c9_7 : decode cJ9_max_f86c9 7 = .ok (.goto 4, 3) := by decide +kernel
theorem dJ9_max_f86c9_10 : decode cJ9_max_f86c9 10 = .ok (.lload_n 2, 1) := by decide +kernel
theorem dJ9_max_f86c9_11 : decode cJ9_max_f86c9 11 = .ok (.lreturn, 1) := by decide +kernel
theorem dJ9_min_f86c9_0 : decode cJ9_min_f86c9 0 = .ok (.lload_n 0, 1) := by decide +kernel
theorem dJ9_min_f86c9_1 : decode cJ9_min_f86c9 1 = .ok (.lload_n 2, 1) := by decide +kernel
theorem dJ9_min_f86c9_2 : decode cJ9_min_f86c9 2 = .ok (.lcmp, 1) := by decide +kernel
theorem dJ9_min_f86c9_3 : decode cJ9_min_f86c9 3 = .ok (.ifCond .gt 7, 3) := by decide +kernel
theorem dJ9_min_f86c9_6 : decode cJ9_min_f86c9 6 = .ok (.lload_n 0, 1) := by decide +kernel
theorem dJ9_min_f86c9_7 : decode cJ9_min_f86c9 7 = .ok (.goto 4, 3) := by decide +kernel
theorem dJ9_min_f86c9_10 : decode cJ9_min_f86c9 10 = .ok (.lload_n 2, 1) := by decide +kernel
theorem dJ9_min_f86c9_11 : decode cJ9_min_f86c9 11 = .ok (.lreturn, 1) := by decide +kernel
theorem dJ0_length_8abf5_0 : decode cJ0_length_8abf5 0 = .ok (.aload_n 0, 1) := by decide +kernel
theorem dJ0_length_8abf5_1 : decode cJ0_length_8abf5 1 = .ok (.getfield 9, 3) := by decide +kernel
theorem dJ0_length_8abf5_4 : decode cJ0_length_8abf5 4 = .ok (.arraylength, 1) := by decide +kernel
theorem dJ0_length_8abf5_5 : decode cJ0_length_8abf5 5 = .ok (.aload_n 0, 1) := by decide +kernel
theorem dJ0_length_8abf5_6 : decode cJ0_length_8abf5 6 = .ok (.invokevirtual 335, 3) := by decide +kernel
theorem dJ0_length_8abf5_9 : decode cJ0_length_8abf5 9 = .ok (.ishr, 1) := by decide +kernel
theorem dJ0_length_8abf5_10 : decode cJ0_length_8abf5 10 = .ok (.ireturn, 1) := by decide +kernel
theorem dJ0_charAt_5068e_0 : decode cJ0_charAt_5068e 0 = .ok (.aload_n 0, 1) := by decide +kernel
theorem dJ0_charAt_5068e_1 : decode cJ0_charAt_5068e 1 = .ok (.invokevirtual 492, 3) := by decide +kernel
theorem dJ0_charAt_5068e_4 : decode cJ0_charAt_5068e 4 = .ok (.ifCond .eq 12, 3) := by decide +kernel
theorem dJ0_charAt_5068e_7 : decode cJ0_charAt_5068e 7 = .ok (.aload_n 0, 1) := by decide +kernel
theorem dJ0_charAt_5068e_8 : decode cJ0_charAt_5068e 8 = .ok (.getfield 9, 3) := by decide +kernel
theorem dJ0_charAt_5068e_11 : decode cJ0_charAt_5068e 11 = .ok (.iload_n 1, 1) := by decide +kernel
theorem dJ0_charAt_5068e_12 : decode cJ0_charAt_5068e 12 = .ok (.invokestatic 495, 3) := by decide +kernel
theorem dJ0_charAt_5068e_15 : decode cJ0_charAt_5068e 15 = .ok (.ireturn, 1) := by decide +kernel
theorem dJ0_charAt_5068e_16 : decode cJ0_charAt_5068e 16 = .ok (.aload_n 0, 1) := by decide +kernel
theorem dJ0_charAt_5068e_17 : decode cJ0_charAt_5068e 17 = .ok (.getfield 9, 3) := by decide +kernel
theorem dJ0_charAt_5068e_20 : decode cJ0_charAt_5068e 20 = .ok (.iload_n 1, 1) := by decide +kernel
theorem dJ0_charAt_5068e_21 : decode cJ0_charAt_5068e 21 = .ok (.invokestatic 498, 3) := by decide +kernel
theorem dJ0_charAt_5068e_24 : decode cJ0_charAt_5068e 24 = .ok (.ireturn, 1) := by decide +kernel
theorem dJ0_coder_7d493_0 : decode cJ0_coder_7d493 0 = .ok (.getstatic 38, 3) := by decide +kernel
theorem dJ0_coder_7d493_3 : decode cJ0_coder_7d493 3 = .ok (.ifCond .eq 10, 3) := by decide +kernel
theorem dJ0_coder_7d493_6 : decode cJ0_coder_7d493 6 = .ok (.aload_n 0, 1) := by decide +kernel
theorem dJ0_coder_7d493_7 : decode cJ0_coder_7d493 7 = .ok (.getfield 15, 3) := by decide +kernel
theorem dJ0_coder_7d493_10 : decode cJ0_coder_7d493 10 = .ok (.goto 4, 3) := by decide +kernel
theorem dJ0_coder_7d493_13 : decode cJ0_coder_7d493 13 = .ok (.iconst 1, 1) := by decide +kernel
theorem dJ0_coder_7d493_14 : decode cJ0_coder_7d493 14 = .ok (.ireturn, 1) := by decide +kernel
theorem dJ0_isLatin1_aae02_0 : decode cJ0_isLatin1_aae02 0 = .ok (.getstatic 38, 3) := by decide +kernel
theorem dJ0_isLatin1_aae02_3 : decode cJ0_isLatin1_aae02 3 = .ok (.ifCond .eq 14, 3) := by decide +kernel
theorem dJ0_isLatin1_aae02_6 : decode cJ0_isLatin1_aae02 6 = .ok (.aload_n 0, 1) := by decide +kernel
theorem dJ0_isLatin1_aae02_7 : decode cJ0_isLatin1_aae02 7 = .ok (.getfield 15, 3) := by decide +kernel
theorem dJ0_isLatin1_aae02_10 : decode cJ0_isLatin1_aae02 10 = .ok (.ifCond .ne 7, 3) := by decide +kernel
theorem dJ0_isLatin1_aae02_13 : decode cJ0_isLatin1_aae02 13 = .ok (.iconst 1, 1) := by decide +kernel
theorem dJ0_isLatin1_aae02_14 : decode cJ0_isLatin1_aae02 14 = .ok (.goto 4, 3) := by decide +kernel
theorem dJ0_isLatin1_aae02_17 : decode cJ0_isLatin1_aae02 17 = .ok (.iconst 0, 1) := by decide +kernel
theorem dJ0_isLatin1_aae02_18 : decode cJ0_isLatin1_aae02 18 = .ok (.ireturn, 1) := by decide +kernel
theorem dJ0_checkIndex_df160_0 : decode cJ0_checkIndex_df160 0 = .ok (.iload_n 0, 1) := by decide +kernel
theorem dJ0_checkIndex_df160_1 : decode cJ0_checkIndex_df160 1 = .ok (.iload_n 1, 1) := by decide +kernel
theorem dJ0_checkIndex_df160_2 : decode cJ0_checkIndex_df160 2 = .ok (.getstatic 1053, 3) := by decide +kernel
theorem dJ0_checkIndex_df160_5 : decode cJ0_checkIndex_df160 5 = .ok (.invokestatic 1059, 3) := by decide +kernel
theorem dJ0_checkIndex_df160_8 : decode cJ0_checkIndex_df160 8 = .ok (.pop, 1) := by decide +kernel
theorem dJ0_checkIndex_df160_9 : decode cJ0_checkIndex_df160 9 = .ok (.return_, 1) := by decide +kernel
theorem dJ1_charAt_3b067_0 : decode cJ1_charAt_3b067 0 = .ok (.iload_n 1, 1) := by decide +kernel
theorem dJ1_charAt_3b067_1 : decode cJ1_charAt_3b067 1 = .ok (.aload_n 0, 1) := by decide +kernel
theorem dJ1_charAt_3b067_2 : decode cJ1_charAt_3b067 2 = .ok (.arraylength, 1) := by decide +kernel
theorem dJ1_charAt_3b067_3 : decode cJ1_charAt_3b067 3 = .ok (.invokestatic 9, 3) := by decide +kernel
theorem dJ1_charAt_3b067_6 : decode cJ1_charAt_3b067 6 = .ok (.aload_n 0, 1) := by decide +kernel
theorem dJ1_charAt_3b067_7 : decode cJ1_charAt_3b067 7 = .ok (.iload_n 1, 1) := by decide +kernel
theorem dJ1_charAt_3b067_8 : decode cJ1_charAt_3b067 8 = .ok (.baload, 1) := by decide +kernel
theorem dJ1_charAt_3b067_9 : decode cJ1_charAt_3b067 9 = .ok (.sipush 255, 3) := by decide +kernel
theorem dJ1_charAt_3b067_12 : decode cJ1_charAt_3b067 12 = .ok (.iand, 1) := by decide +kernel
theorem dJ1_charAt_3b067_13 : decode cJ1_charAt_3b067 13 = .ok (.i2c, 1) := by decide +kernel
theorem dJ1_charAt_3b067_14 : decode cJ1_charAt_3b067 14 = .ok (.ireturn, 1) := by decide +kernel
theorem dJ2_getChar_3b067_0 : decode cJ2_getChar_3b067 0 = .ok (.getstatic 44, 3) := by decide +kernel
theorem dJ2_getChar_3b067_3 : decode cJ2_getChar_3b067 3 = .ok (.ifCond .ne 25, 3) := by decide +kernel
theorem dJ2_getChar_3b067_6 : decode cJ2_getChar_3b067 6 = .ok (.iload_n 1, 1) := by decide +kernel
theorem dJ2_getChar_3b067_7 : decode cJ2_getChar_3b067 7 = .ok (.ifCond .lt 11, 3) := by decide +kernel
theorem dJ2_getChar_3b067_10 : decode cJ2_getChar_3b067 10 = .ok (.iload_n 1, 1) := by decide +kernel
theorem dJ2_getChar_3b067_11 : decode cJ2_getChar_3b067 11 = .ok (.aload_n 0, 1) := by decide +kernel
theorem dJ2_getChar_3b067_12 : decode cJ2_getChar_3b067 12 = .ok (.invokestatic 48, 3) := by decide +kernel
theorem dJ2_getChar_3b067_15 : decode cJ2_getChar_3b067 15 = .ok (.if_icmp .lt 13, 3) := by decide +kernel
theorem dJ2_getChar_3b067_18 : decode cJ2_getChar_3b067 18 = .ok (.new 52, 3) := by decide +kernel
theorem dJ2_getChar_3b067_21 : decode cJ2_getChar_3b067 21 = .ok (.dup, 1) := by decide +kernel
theorem dJ2_getChar_3b067_22 : decode cJ2_getChar_3b067 22 = .ok (.ldc 54, 2) := by decide +kernel
theorem dJ2_getChar_3b067_24 : decode cJ2_getChar_3b067 24 = .ok (.invokespecial 56, 3) := by decide +kernel
theorem dJ2_getChar_3b067_27 : decode cJ2_getChar_3b067 27 = .ok (.athrow, 1) := by decide +kernel
theorem dJ2_getChar_3b067_28 : decode cJ2_getChar_3b067 28 = .ok (.iload_n 1, 1) := by decide +kernel
theorem dJ2_getChar_3b067_29 : decode cJ2_getChar_3b067 29 = .ok (.iconst 1, 1) := by decide +kernel
theorem dJ2_getChar_3b067_30 : decode cJ2_getChar_3b067 30 = .ok (.ishl, 1) := by decide +kernel
theorem dJ2_getChar_3b067_31 : decode cJ2_getChar_3b067 31 = .ok (.istore_n 1, 1) := by decide +kernel
theorem dJ2_getChar_3b067_32 : decode cJ2_getChar_3b067 32 = .ok (.aload_n 0, 1) := by decide +kernel
theorem dJ2_getChar_3b067_33 : decode cJ2_getChar_3b067 33 = .ok (.iload_n 1, 1) := by decide +kernel
theorem dJ2_getChar_3b067_34 : decode cJ2_getChar_3b067 34 = .ok (.iinc 1 1, 3) := by decide +kernel
theorem dJ2_getChar_3b067_37 : decode cJ2_getChar_3b067 37 = .ok (.baload, 1) := by decide +kernel
theorem dJ2_getChar_3b067_38 : decode cJ2_getChar_3b067 38 = .ok (.sipush 255, 3) := by decide +kernel
theorem dJ2_getChar_3b067_41 : decode cJ2_getChar_3b067 41 = .ok (.iand, 1) := by decide +kernel
theorem dJ2_getChar_3b067_42 : decode cJ2_getChar_3b067 42 = .ok (.getstatic 59, 3) := by decide +kernel
theorem dJ2_getChar_3b067_45 : decode cJ2_getChar_3b067 45 = .ok (.ishl, 1) := by decide +kernel
theorem dJ2_getChar_3b067_46 : decode cJ2_getChar_3b067 46 = .ok (.aload_n 0, 1) := by decide +kernel
theorem dJ2_getChar_3b067_47 : decode cJ2_getChar_3b067 47 = .ok (.iload_n 1, 1) := by decide +kernel
theorem dJ2_getChar_3b067_48 : decode cJ2_getChar_3b067 48 = .ok (.baload, 1) := by decide +kernel
theorem dJ2_getChar_3b067_49 : decode cJ2_getChar_3b067 49 = .ok (.sipush 255, 3) := by decide +kernel
theorem dJ2_getChar_3b067_52 : decode cJ2_getChar_3b067 52 = .ok (.iand, 1) := by decide +kernel
theorem dJ2_getChar_3b067_53 : decode cJ2_getChar_3b067 53 = .ok (.getstatic 63, 3) := by decide +kernel
theorem dJ2_getChar_3b067_56 : decode cJ2_getChar_3b067 56 = .ok (.ishl, 1) := by decide +kernel
theorem dJ2_getChar_3b067_57 : decode cJ2_getChar_3b067 57 = .ok (.ior, 1) := by decide +kernel
theorem dJ2_getChar_3b067_58 : decode cJ2_getChar_3b067 58 = .ok (.i2c, 1) := by decide +kernel
theorem dJ2_getChar_3b067_59 : decode cJ2_getChar_3b067 59 = .ok (.ireturn, 1) := by decide +kernel
theorem dJ2_length_9d52b_0 : decode cJ2_length_9d52b 0 = .ok (.aload_n 0, 1) := by decide +kernel
theorem dJ2_length_9d52b_1 : decode cJ2_length_9d52b 1 = .ok (.arraylength, 1) := by decide +kernel
theorem dJ2_length_9d52b_2 : decode cJ2_length_9d52b 2 = .ok (.iconst 1, 1) := by decide +kernel
theorem dJ2_length_9d52b_3 : decode cJ2_length_9d52b 3 = .ok (.ishr, 1) := by decide +kernel
theorem dJ2_length_9d52b_4 : decode cJ2_length_9d52b 4 = .ok (.ireturn, 1) := by decide +kernel
theorem dJ2_charAt_3b067_0 : decode cJ2_charAt_3b067 0 = .ok (.iload_n 1, 1) := by decide +kernel
theorem dJ2_charAt_3b067_1 : decode cJ2_charAt_3b067 1 = .ok (.aload_n 0, 1) := by decide +kernel
theorem dJ2_charAt_3b067_2 : decode cJ2_charAt_3b067 2 = .ok (.invokestatic 67, 3) := by decide +kernel
theorem dJ2_charAt_3b067_5 : decode cJ2_charAt_3b067 5 = .ok (.aload_n 0, 1) := by decide +kernel
theorem dJ2_charAt_3b067_6 : decode cJ2_charAt_3b067 6 = .ok (.iload_n 1, 1) := by decide +kernel
theorem dJ2_charAt_3b067_7 : decode cJ2_charAt_3b067 7 = .ok (.invokestatic 71, 3) := by decide +kernel
theorem dJ2_charAt_3b067_10 : decode cJ2_charAt_3b067 10 = .ok (.ireturn, 1) := by decide +kernel
theorem dJ2_checkIndex_2214a_0 : decode cJ2_checkIndex_2214a 0 = .ok (.iload_n 0, 1) := by decide +kernel
theorem dJ2_checkIndex_2214a_1 : decode cJ2_checkIndex_2214a 1 = .ok (.aload_n 1, 1) := by decide +kernel
theorem dJ2_checkIndex_2214a_2 : decode cJ2_checkIndex_2214a 2 = .ok (.invokestatic 48, 3) := by decide +kernel
theorem dJ2_checkIndex_2214a_5 : decode cJ2_checkIndex_2214a 5 = .ok (.invokestatic 414, 3) := by decide +kernel
theorem dJ2_checkIndex_2214a_8 : decode cJ2_checkIndex_2214a 8 = .ok (.return_, 1) := by decide +kernel
theorem dJ3_checkIndex_8e157_0 : decode cJ3_checkIndex_8e157 0 = .ok (.iload_n 0, 1) := by decide +kernel
theorem dJ3_checkIndex_8e157_1 : decode cJ3_checkIndex_8e157 1 = .ok (.ifCond .lt 8, 3) := by decide +kernel
theorem dJ3_checkIndex_8e157_4 : decode cJ3_checkIndex_8e157 4 = .ok (.iload_n 0, 1) := by decide +kernel
theorem dJ3_checkIndex_8e157_5 : decode cJ3_checkIndex_8e157 5 = .ok (.iload_n 1, 1) := by decide +kernel
theorem dJ3_checkIndex_8e157_6 : decode cJ3_checkIndex_8e157 6 = .ok (.if_icmp .lt 10, 3) := by decide +kernel
theorem dJ3_checkIndex_8e157_9 : decode cJ3_checkIndex_8e157 9 = .ok (.aload_n 2, 1) := by decide +kernel
theorem dJ3_checkIndex_8e157_10 : decode cJ3_checkIndex_8e157 10 = .ok (.iload_n 0, 1) := by decide +kernel
theorem dJ3_checkIndex_8e157_11 : decode cJ3_checkIndex_8e157 11 = .ok (.iload_n 1, 1) := by decide +kernel
theorem dJ3_checkIndex_8e157_12 : decode cJ3_checkIndex_8e157 12 = .ok (.invokestatic 95, 3) := by decide +kernel
theorem dJ3_checkIndex_8e157_15 : decode cJ3_checkIndex_8e157 15 = .ok (.athrow, 1) := by decide +kernel
theorem dJ3_checkIndex_8e157_16 : decode cJ3_checkIndex_8e157 16 = .ok (.iload_n 0, 1) := by decide +kernel
theorem dJ3_checkIndex_8e157_17 : decode cJ3_checkIndex_8e157 17 = .ok (.ireturn, 1) := by decide +kernel
