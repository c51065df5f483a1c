theorem dX5_init_0 : decode cX5_init 0 = .ok (.aload_n 0, 1) := by decide +kernel
theorem dX5_init_1 : decode cX5_init 1 = .ok (.invokespecial 3, 3) := by decide +kernel
theorem dX5_init_4 : decode cX5_init 4 = .ok (.aload_n 0, 1) := by decide +kernel
theorem dX5_init_5 : decode cX5_init 5 = .ok (.new 9, 3) := by decide +kernel
theorem dX5_init_8 : decode cX5_init 8 = .ok (.dup, 1) := by decide +kernel
theorem dX5_init_9 : decode cX5_init 9 = .ok (.invokespecial 11, 3) := by decide +kernel
theorem dX5_init_12 : decode cX5_init 12 = .ok (.putfield 12, 3) := by decide +kernel
theorem dX5_init_15 : decode cX5_init 15 = .ok (.aload_n 0, 1) := by decide +kernel
theorem dX5_init_16 : decode cX5_init 16 = .ok (.new 18, 3) := by decide +kernel
theorem dX5_init_19 : decode cX5_init 19 = .ok (.dup, 1) := by decide +kernel
theorem dX5_init_20 : decode cX5_init 20 = .ok (.invokespecial 20, 3) := by decide +kernel
theorem dX5_init_23 : decode cX5_init 23 = .ok (.putfield 21, 3) := by decide +kernel
theorem dX5_init_26 : decode cX5_init 26 = .ok (.aload_n 0, 1) := by decide +kernel
theorem dX5_init_27 : decode cX5_init 27 = .ok (.new 25, 3) := by decide +kernel
theorem dX5_init_30 : decode cX5_init 30 = .ok (.dup, 1) := by decide +kernel
theorem dX5_init_31 : decode cX5_init 31 = .ok (.invokespecial 27, 3) := by decide +kernel
theorem dX5_init_34 : decode cX5_init 34 = .ok (.putfield 28, 3) := by decide +kernel
theorem dX5_init_37 : decode cX5_init 37 = .ok (.aload_n 0, 1) := by decide +kernel
theorem dX5_init_38 : decode cX5_init 38 = .ok (.new 25, 3) := by decide +kernel
theorem dX5_init_41 : decode cX5_init 41 = .ok (.dup, 1) := by decide +kernel
theorem dX5_init_42 : decode cX5_init 42 = .ok (.invokespecial 27, 3) := by decide +kernel
theorem dX5_init_45 : decode cX5_init 45 = .ok (.putfield 32, 3) := by decide +kernel
theorem dX5_init_48 : decode cX5_init 48 = .ok (.return_, 1) := by decide +kernel
theorem dX5_objectionTo_0 : decode cX5_objectionTo 0 = .ok (.aload_n 1, 1) := by decide +kernel
theorem dX5_objectionTo_1 : decode cX5_objectionTo 1 = .ok (.getstatic 35, 3) := by decide +kernel
theorem dX5_objectionTo_4 : decode cX5_objectionTo 4 = .ok (.if_acmp .ne 19, 3) := by decide +kernel
theorem dX5_objectionTo_7 : decode cX5_objectionTo 7 = .ok (.aload_n 0, 1) := by decide +kernel
theorem dX5_objectionTo_8 : decode cX5_objectionTo 8 = .ok (.getfield 12, 3) := by decide +kernel
theorem dX5_objectionTo_11 : decode cX5_objectionTo 11 = .ok (.invokevirtual 41, 3) := by decide +kernel
theorem dX5_objectionTo_14 : decode cX5_objectionTo 14 = .ok (.ifCond .eq 7, 3) := by decide +kernel
theorem dX5_objectionTo_17 : decode cX5_objectionTo 17 = .ok (.iconst 1, 1) := by decide +kernel
theorem dX5_objectionTo_18 : decode cX5_objectionTo 18 = .ok (.goto 4, 3) := by decide +kernel
theorem dX5_objectionTo_21 : decode cX5_objectionTo 21 = .ok (.iconst 0, 1) := by decide +kernel
theorem dX5_objectionTo_22 : decode cX5_objectionTo 22 = .ok (.ireturn, 1) := by decide +kernel
theorem dX5_objectionTo_23 : decode cX5_objectionTo 23 = .ok (.aload_n 0, 1) := by decide +kernel
theorem dX5_objectionTo_24 : decode cX5_objectionTo 24 = .ok (.getfield 12, 3) := by decide +kernel
theorem dX5_objectionTo_27 : decode cX5_objectionTo 27 = .ok (.iload_n 2, 1) := by decide +kernel
theorem dX5_objectionTo_28 : decode cX5_objectionTo 28 = .ok (.invokevirtual 45, 3) := by decide +kernel
theorem dX5_objectionTo_31 : decode cX5_objectionTo 31 = .ok (.ifCond .ne 6, 3) := by decide +kernel
theorem dX5_objectionTo_34 : decode cX5_objectionTo 34 = .ok (.bipush 8, 2) := by decide +kernel
theorem dX5_objectionTo_36 : decode cX5_objectionTo 36 = .ok (.ireturn, 1) := by decide +kernel
theorem dX5_objectionTo_37 : decode cX5_objectionTo 37 = .ok (.aload_n 1, 1) := by decide +kernel
theorem dX5_objectionTo_38 : decode cX5_objectionTo 38 = .ok (.getstatic 49, 3) := by decide +kernel
theorem dX5_objectionTo_41 : decode cX5_objectionTo 41 = .ok (.if_acmp .ne 9, 3) := by decide +kernel
theorem dX5_objectionTo_44 : decode cX5_objectionTo 44 = .ok (.aload_n 0, 1) := by decide +kernel
theorem dX5_objectionTo_45 : decode cX5_objectionTo 45 = .ok (.iload_n 2, 1) := by decide +kernel
theorem dX5_objectionTo_46 : decode cX5_objectionTo 46 = .ok (.invokevirtual 52, 3) := by decide +kernel
theorem dX5_objectionTo_49 : decode cX5_objectionTo 49 = .ok (.ireturn, 1) := by decide +kernel
theorem dX5_objectionTo_50 : decode cX5_objectionTo 50 = .ok (.aload_n 0, 1) := by decide +kernel
theorem dX5_objectionTo_51 : decode cX5_objectionTo 51 = .ok (.getfield 12, 3) := by decide +kernel
theorem dX5_objectionTo_54 : decode cX5_objectionTo 54 = .ok (.iload_n 2, 1) := by decide +kernel
theorem dX5_objectionTo_55 : decode cX5_objectionTo 55 = .ok (.invokevirtual 56, 3) := by decide +kernel
theorem dX5_objectionTo_58 : decode cX5_objectionTo 58 = .ok (.ifCond .eq 5, 3) := by decide +kernel
theorem dX5_objectionTo_61 : decode cX5_objectionTo 61 = .ok (.iconst 2, 1) := by decide +kernel
theorem dX5_objectionTo_62 : decode cX5_objectionTo 62 = .ok (.ireturn, 1) := by decide +kernel
theorem dX5_objectionTo_63 : decode cX5_objectionTo 63 = .ok (.aload_n 0, 1) := by decide +kernel
theorem dX5_objectionTo_64 : decode cX5_objectionTo 64 = .ok (.getfield 12, 3) := by decide +kernel
theorem dX5_objectionTo_67 : decode cX5_objectionTo 67 = .ok (.getfield 59, 3) := by decide +kernel
theorem dX5_objectionTo_70 : decode cX5_objectionTo 70 = .ok (.iload_n 2, 1) := by decide +kernel
theorem dX5_objectionTo_71 : decode cX5_objectionTo 71 = .ok (.aaload, 1) := by decide +kernel
theorem dX5_objectionTo_72 : decode cX5_objectionTo 72 = .ok (.astore_n 3, 1) := by decide +kernel
theorem dX5_objectionTo_73 : decode cX5_objectionTo 73 = .ok (.getstatic 63, 3) := by decide +kernel
theorem dX5_objectionTo_76 : decode cX5_objectionTo 76 = .ok (.aload_n 1, 1) := by decide +kernel
theorem dX5_objectionTo_77 : decode cX5_objectionTo 77 = .ok (.invokevirtual 69, 3) := by decide +kernel
theorem dX5_objectionTo_80 : decode cX5_objectionTo 80 = .ok (.iaload, 1) := by decide +kernel
theorem dX5_objectionTo_81 : decode cX5_objectionTo 81 = .ok (.tableswitch 89 1 3 #[27, 40, 53], 27) := by decide +kernel
theorem dX5_objectionTo_108 : decode cX5_objectionTo 108 = .ok (.aload_n 3, 1) := by decide +kernel
theorem dX5_objectionTo_109 : decode cX5_objectionTo 109 = .ok (.invokevirtual 73, 3) := by decide +kernel
theorem dX5_objectionTo_112 : decode cX5_objectionTo 112 = .ok (.ifCond .eq 7, 3) := by decide +kernel
theorem dX5_objectionTo_115 : decode cX5_objectionTo 115 = .ok (.iconst 1, 1) := by decide +kernel
theorem dX5_objectionTo_116 : decode cX5_objectionTo 116 = .ok (.goto 4, 3) := by decide +kernel
theorem dX5_objectionTo_119 : decode cX5_objectionTo 119 = .ok (.iconst 0, 1) := by decide +kernel
theorem dX5_objectionTo_120 : decode cX5_objectionTo 120 = .ok (.ireturn, 1) := by decide +kernel
theorem dX5_objectionTo_121 : decode cX5_objectionTo 121 = .ok (.aload_n 3, 1) := by decide +kernel
theorem dX5_objectionTo_122 : decode cX5_objectionTo 122 = .ok (.getfield 76, 3) := by decide +kernel
theorem dX5_objectionTo_125 : decode cX5_objectionTo 125 = .ok (.ifCond .ne 7, 3) := by decide +kernel
theorem dX5_objectionTo_128 : decode cX5_objectionTo 128 = .ok (.iconst 4, 1) := by decide +kernel
theorem dX5_objectionTo_129 : decode cX5_objectionTo 129 = .ok (.goto 4, 3) := by decide +kernel
theorem dX5_objectionTo_132 : decode cX5_objectionTo 132 = .ok (.iconst 0, 1) := by decide +kernel
theorem dX5_objectionTo_133 : decode cX5_objectionTo 133 = .ok (.ireturn, 1) := by decide +kernel
theorem dX5_objectionTo_134 : decode cX5_objectionTo 134 = .ok (.aload_n 0, 1) := by decide +kernel
theorem dX5_objectionTo_135 : decode cX5_objectionTo 135 = .ok (.getfield 21, 3) := by decide +kernel
theorem dX5_objectionTo_138 : decode cX5_objectionTo 138 = .ok (.aload_n 3, 1) := by decide +kernel
theorem dX5_objectionTo_139 : decode cX5_objectionTo 139 = .ok (.invokevirtual 80, 3) := by decide +kernel
theorem dX5_objectionTo_142 : decode cX5_objectionTo 142 = .ok (.aload_n 0, 1) := by decide +kernel
theorem dX5_objectionTo_143 : decode cX5_objectionTo 143 = .ok (.getfield 21, 3) := by decide +kernel
theorem dX5_objectionTo_146 : decode cX5_objectionTo 146 = .ok (.getfield 84, 3) := by decide +kernel
theorem dX5_objectionTo_149 : decode cX5_objectionTo 149 = .ok (.ifCond .ne 15, 3) := by decide +kernel
theorem dX5_objectionTo_152 : decode cX5_objectionTo 152 = .ok (.aload_n 0, 1) := by decide +kernel
theorem dX5_objectionTo_153 : decode cX5_objectionTo 153 = .ok (.getfield 21, 3) := by decide +kernel
theorem dX5_objectionTo_156 : decode cX5_objectionTo 156 = .ok (.getfield 88, 3) := by decide +kernel
theorem dX5_objectionTo_159 : decode cX5_objectionTo 159 = .ok (.bipush 16, 2) := by decide +kernel
theorem dX5_objectionTo_161 : decode cX5_objectionTo 161 = .ok (.if_icmp .le 7, 3) := by decide +kernel
theorem dX5_objectionTo_164 : decode cX5_objectionTo 164 = .ok (.iconst 5, 1) := by decide +kernel
theorem dX5_objectionTo_165 : decode cX5_objectionTo 165 = .ok (.goto 4, 3) := by decide +kernel
theorem dX5_objectionTo_168 : decode cX5_objectionTo 168 = .ok (.iconst 0, 1) := by decide +kernel
theorem dX5_objectionTo_169 : decode cX5_objectionTo 169 = .ok (.ireturn, 1) := by decide +kernel
theorem dX5_objectionTo_170 : decode cX5_objectionTo 170 = .ok (.iconst 0, 1) := by decide +kernel
theorem dX5_objectionTo_171 : decode cX5_objectionTo 171 = .ok (.ireturn, 1) := by decide +kernel
theorem dX5_objectionToAppeal_0 : decode cX5_objectionToAppeal 0 = .ok (.aload_n 0, 1) := by decide +kernel
theorem dX5_objectionToAppeal_1 : decode cX5_objectionToAppeal 1 = .ok (.getfield 12, 3) := by decide +kernel
theorem dX5_objectionToAppeal_4 : decode cX5_objectionToAppeal 4 = .ok (.iload_n 1, 1) := by decide +kernel
theorem dX5_objectionToAppeal_5 : decode cX5_objectionToAppeal 5 = .ok (.invokevirtual 56, 3) := by decide +kernel
theorem dX5_objectionToAppeal_8 : decode cX5_objectionToAppeal 8 = .ok (.ifCond .ne 5, 3) := by decide +kernel
theorem dX5_objectionToAppeal_11 : decode cX5_objectionToAppeal 11 = .ok (.iconst 3, 1) := by decide +kernel
theorem dX5_objectionToAppeal_12 : decode cX5_objectionToAppeal 12 = .ok (.ireturn, 1) := by decide +kernel
theorem dX5_objectionToAppeal_13 : decode cX5_objectionToAppeal 13 = .ok (.aload_n 0, 1) := by decide +kernel
theorem dX5_objectionToAppeal_14 : decode cX5_objectionToAppeal 14 = .ok (.getfield 12, 3) := by decide +kernel
theorem dX5_objectionToAppeal_17 : decode cX5_objectionToAppeal 17 = .ok (.getfield 91, 3) := by decide +kernel
theorem dX5_objectionToAppeal_20 : decode cX5_objectionToAppeal 20 = .ok (.aload_n 0, 1) := by decide +kernel
theorem dX5_objectionToAppeal_21 : decode cX5_objectionToAppeal 21 = .ok (.getfield 12, 3) := by decide +kernel
theorem dX5_objectionToAppeal_24 : decode cX5_objectionToAppeal 24 = .ok (.getfield 95, 3) := by decide +kernel
theorem dX5_objectionToAppeal_27 : decode cX5_objectionToAppeal 27 = .ok (.iload_n 1, 1) := by decide +kernel
theorem dX5_objectionToAppeal_28 : decode cX5_objectionToAppeal 28 = .ok (.iaload, 1) := by decide +kernel
theorem dX5_objectionToAppeal_29 : decode cX5_objectionToAppeal 29 = .ok (.baload, 1) := by decide +kernel
theorem dX5_objectionToAppeal_30 : decode cX5_objectionToAppeal 30 = .ok (.ifCond .eq 8, 3) := by decide +kernel
theorem dX5_objectionToAppeal_33 : decode cX5_objectionToAppeal 33 = .ok (.bipush 6, 2) := by decide +kernel
theorem dX5_objectionToAppeal_35 : decode cX5_objectionToAppeal 35 = .ok (.goto 4, 3) := by decide +kernel
theorem dX5_objectionToAppeal_38 : decode cX5_objectionToAppeal 38 = .ok (.iconst 0, 1) := by decide +kernel
theorem dX5_objectionToAppeal_39 : decode cX5_objectionToAppeal 39 = .ok (.ireturn, 1) := by decide +kernel
theorem dX5_detailOf_0 : decode cX5_detailOf 0 = .ok (.iload_n 1, 1) := by decide +kernel
theorem dX5_detailOf_1 : decode cX5_detailOf 1 = .ok (.tableswitch 77 1 6 #[39, 54, 77, 77, 64, 54], 39) := by decide +kernel
theorem dX5_detailOf_40 : decode cX5_detailOf 40 = .ok (.aload_n 2, 1) := by decide +kernel
theorem dX5_detailOf_41 : decode cX5_detailOf 41 = .ok (.getstatic 35, 3) := by decide +kernel
theorem dX5_detailOf_44 : decode cX5_detailOf 44 = .ok (.if_acmp .ne 8, 3) := by decide +kernel
theorem dX5_detailOf_47 : decode cX5_detailOf 47 = .ok (.bipush 8, 2) := by decide +kernel
theorem dX5_detailOf_49 : decode cX5_detailOf 49 = .ok (.goto 5, 3) := by decide +kernel
theorem dX5_detailOf_52 : decode cX5_detailOf 52 = .ok (.bipush 16, 2) := by decide +kernel
theorem dX5_detailOf_54 : decode cX5_detailOf 54 = .ok (.ireturn, 1) := by decide +kernel
theorem dX5_detailOf_55 : decode cX5_detailOf 55 = .ok (.aload_n 0, 1) := by decide +kernel
theorem dX5_detailOf_56 : decode cX5_detailOf 56 = .ok (.getfield 12, 3) := by decide +kernel
theorem dX5_detailOf_59 : decode cX5_detailOf 59 = .ok (.getfield 95, 3) := by decide +kernel
theorem dX5_detailOf_62 : decode cX5_detailOf 62 = .ok (.iload_n 3, 1) := by decide +kernel
theorem dX5_detailOf_63 : decode cX5_detailOf 63 = .ok (.iaload, 1) := by decide +kernel
theorem dX5_detailOf_64 : decode cX5_detailOf 64 = .ok (.ireturn, 1) := by decide +kernel
theorem dX5_detailOf_65 : decode cX5_detailOf 65 = .ok (.aload_n 0, 1) := by decide +kernel
theorem dX5_detailOf_66 : decode cX5_detailOf 66 = .ok (.getfield 12, 3) := by decide +kernel
theorem dX5_detailOf_69 : decode cX5_detailOf 69 = .ok (.getfield 59, 3) := by decide +kernel
theorem dX5_detailOf_72 : decode cX5_detailOf 72 = .ok (.iload_n 3, 1) := by decide +kernel
theorem dX5_detailOf_73 : decode cX5_detailOf 73 = .ok (.aaload, 1) := by decide +kernel
theorem dX5_detailOf_74 : decode cX5_detailOf 74 = .ok (.getfield 76, 3) := by decide +kernel
theorem dX5_detailOf_77 : decode cX5_detailOf 77 = .ok (.ireturn, 1) := by decide +kernel
theorem dX5_detailOf_78 : decode cX5_detailOf 78 = .ok (.iload_n 3, 1) := by decide +kernel
theorem dX5_detailOf_79 : decode cX5_detailOf 79 = .ok (.ireturn, 1) := by decide +kernel
theorem dX5_perform_0 : decode cX5_perform 0 = .ok (.getstatic 63, 3) := by decide +kernel
theorem dX5_perform_3 : decode cX5_perform 3 = .ok (.aload_n 1, 1) := by decide +kernel
theorem dX5_perform_4 : decode cX5_perform 4 = .ok (.invokevirtual 69, 3) := by decide +kernel
theorem dX5_perform_7 : decode cX5_perform 7 = .ok (.iaload, 1) := by decide +kernel
theorem dX5_perform_8 : decode cX5_perform 8 = .ok (.tableswitch 116 1 6 #[51, 67, 99, 40, 83, 108], 40) := by decide +kernel
theorem dX5_perform_48 : decode cX5_perform 48 = .ok (.aload_n 0, 1) := by decide +kernel
theorem dX5_perform_49 : decode cX5_perform 49 = .ok (.getfield 12, 3) := by decide +kernel
theorem dX5_perform_52 : decode cX5_perform 52 = .ok (.invokevirtual 98, 3) := by decide +kernel
theorem dX5_perform_55 : decode cX5_perform 55 = .ok (.pop, 1) := by decide +kernel
theorem dX5_perform_56 : decode cX5_perform 56 = .ok (.goto 82, 3) := by decide +kernel
theorem dX5_perform_59 : decode cX5_perform 59 = .ok (.aload_n 0, 1) := by decide +kernel
theorem dX5_perform_60 : decode cX5_perform 60 = .ok (.getfield 12, 3) := by decide +kernel
theorem dX5_perform_63 : decode cX5_perform 63 = .ok (.getfield 59, 3) := by decide +kernel
theorem dX5_perform_66 : decode cX5_perform 66 = .ok (.iload_n 2, 1) := by decide +kernel
theorem dX5_perform_67 : decode cX5_perform 67 = .ok (.aaload, 1) := by decide +kernel
theorem dX5_perform_68 : decode cX5_perform 68 = .ok (.iload_n 3, 1) := by decide +kernel
theorem dX5_perform_69 : decode cX5_perform 69 = .ok (.invokevirtual 101, 3) := by decide +kernel
theorem dX5_perform_72 : decode cX5_perform 72 = .ok (.goto 66, 3) := by decide +kernel
theorem dX5_perform_75 : decode cX5_perform 75 = .ok (.aload_n 0, 1) := by decide +kernel
theorem dX5_perform_76 : decode cX5_perform 76 = .ok (.getfield 12, 3) := by decide +kernel
theorem dX5_perform_79 : decode cX5_perform 79 = .ok (.getfield 59, 3) := by decide +kernel
theorem dX5_perform_82 : decode cX5_perform 82 = .ok (.iload_n 2, 1) := by decide +kernel
theorem dX5_perform_83 : decode cX5_perform 83 = .ok (.aaload, 1) := by decide +kernel
theorem dX5_perform_84 : decode cX5_perform 84 = .ok (.invokevirtual 105, 3) := by decide +kernel
theorem dX5_perform_87 : decode cX5_perform 87 = .ok (.pop, 1) := by decide +kernel
theorem dX5_perform_88 : decode cX5_perform 88 = .ok (.goto 50, 3) := by decide +kernel
theorem dX5_perform_91 : decode cX5_perform 91 = .ok (.aload_n 0, 1) := by decide +kernel
theorem dX5_perform_92 : decode cX5_perform 92 = .ok (.getfield 12, 3) := by decide +kernel
theorem dX5_perform_95 : decode cX5_perform 95 = .ok (.getfield 59, 3) := by decide +kernel
theorem dX5_perform_98 : decode cX5_perform 98 = .ok (.iload_n 2, 1) := by decide +kernel
theorem dX5_perform_99 : decode cX5_perform 99 = .ok (.aaload, 1) := by decide +kernel
theorem dX5_perform_100 : decode cX5_perform 100 = .ok (.invokevirtual 108, 3) := by decide +kernel
theorem dX5_perform_103 : decode cX5_perform 103 = .ok (.pop, 1) := by decide +kernel
theorem dX5_perform_104 : decode cX5_perform 104 = .ok (.goto 34, 3) := by decide +kernel
theorem dX5_perform_107 : decode cX5_perform 107 = .ok (.aload_n 0, 1) := by decide +kernel
theorem dX5_perform_108 : decode cX5_perform 108 = .ok (.iload_n 2, 1) := by decide +kernel
theorem dX5_perform_109 : decode cX5_perform 109 = .ok (.invokevirtual 111, 3) := by decide +kernel
theorem dX5_perform_112 : decode cX5_perform 112 = .ok (.pop, 1) := by decide +kernel
theorem dX5_perform_113 : decode cX5_perform 113 = .ok (.goto 25, 3) := by decide +kernel
theorem dX5_perform_116 : decode cX5_perform 116 = .ok (.aload_n 0, 1) := by decide +kernel
theorem dX5_perform_117 : decode cX5_perform 117 = .ok (.iload_n 2, 1) := by decide +kernel
theorem dX5_perform_118 : decode cX5_perform 118 = .ok (.invokevirtual 114, 3) := by decide +kernel
theorem dX5_perform_121 : decode cX5_perform 121 = .ok (.goto 17, 3) := by decide +kernel
theorem dX5_perform_124 : decode cX5_perform 124 = .ok (.aload_n 0, 1) := by decide +kernel
theorem dX5_perform_125 : decode cX5_perform 125 = .ok (.aload_n 0, 1) := by decide +kernel
theorem dX5_perform_126 : decode cX5_perform 126 = .ok (.getfield 12, 3) := by decide +kernel
theorem dX5_perform_129 : decode cX5_perform 129 = .ok (.getfield 95, 3) := by decide +kernel
theorem dX5_perform_132 : decode cX5_perform 132 = .ok (.iload_n 2, 1) := by decide +kernel
theorem dX5_perform_133 : decode cX5_perform 133 = .ok (.iaload, 1) := by decide +kernel
theorem dX5_perform_134 : decode cX5_perform 134 = .ok (.invokevirtual 117, 3) := by decide +kernel
theorem dX5_perform_137 : decode cX5_perform 137 = .ok (.pop, 1) := by decide +kernel
theorem dX5_perform_138 : decode cX5_perform 138 = .ok (.return_, 1) := by decide +kernel
theorem dX5_replaceByRelaxed_0 : decode cX5_replaceByRelaxed 0 = .ok (.aload_n 0, 1) := by decide +kernel
theorem dX5_replaceByRelaxed_1 : decode cX5_replaceByRelaxed 1 = .ok (.getfield 21, 3) := by decide +kernel
theorem dX5_replaceByRelaxed_4 : decode cX5_replaceByRelaxed 4 = .ok (.aload_n 0, 1) := by decide +kernel
theorem dX5_replaceByRelaxed_5 : decode cX5_replaceByRelaxed 5 = .ok (.getfield 12, 3) := by decide +kernel
theorem dX5_replaceByRelaxed_8 : decode cX5_replaceByRelaxed 8 = .ok (.getfield 59, 3) := by decide +kernel
theorem dX5_replaceByRelaxed_11 : decode cX5_replaceByRelaxed 11 = .ok (.iload_n 1, 1) := by decide +kernel
theorem dX5_replaceByRelaxed_12 : decode cX5_replaceByRelaxed 12 = .ok (.aaload, 1) := by decide +kernel
theorem dX5_replaceByRelaxed_13 : decode cX5_replaceByRelaxed 13 = .ok (.invokevirtual 80, 3) := by decide +kernel
theorem dX5_replaceByRelaxed_16 : decode cX5_replaceByRelaxed 16 = .ok (.aload_n 0, 1) := by decide +kernel
theorem dX5_replaceByRelaxed_17 : decode cX5_replaceByRelaxed 17 = .ok (.getfield 12, 3) := by decide +kernel
theorem dX5_replaceByRelaxed_20 : decode cX5_replaceByRelaxed 20 = .ok (.getfield 59, 3) := by decide +kernel
theorem dX5_replaceByRelaxed_23 : decode cX5_replaceByRelaxed 23 = .ok (.iload_n 1, 1) := by decide +kernel
theorem dX5_replaceByRelaxed_24 : decode cX5_replaceByRelaxed 24 = .ok (.aaload, 1) := by decide +kernel
theorem dX5_replaceByRelaxed_25 : decode cX5_replaceByRelaxed 25 = .ok (.aload_n 0, 1) := by decide +kernel
theorem dX5_replaceByRelaxed_26 : decode cX5_replaceByRelaxed 26 = .ok (.getfield 21, 3) := by decide +kernel
theorem dX5_replaceByRelaxed_29 : decode cX5_replaceByRelaxed 29 = .ok (.getfield 120, 3) := by decide +kernel
theorem dX5_replaceByRelaxed_32 : decode cX5_replaceByRelaxed 32 = .ok (.aload_n 0, 1) := by decide +kernel
theorem dX5_replaceByRelaxed_33 : decode cX5_replaceByRelaxed 33 = .ok (.getfield 21, 3) := by decide +kernel
theorem dX5_replaceByRelaxed_36 : decode cX5_replaceByRelaxed 36 = .ok (.getfield 88, 3) := by decide +kernel
theorem dX5_replaceByRelaxed_39 : decode cX5_replaceByRelaxed 39 = .ok (.invokevirtual 123, 3) := by decide +kernel
theorem dX5_replaceByRelaxed_42 : decode cX5_replaceByRelaxed 42 = .ok (.aload_n 0, 1) := by decide +kernel
theorem dX5_replaceByRelaxed_43 : decode cX5_replaceByRelaxed 43 = .ok (.getfield 21, 3) := by decide +kernel
theorem dX5_replaceByRelaxed_46 : decode cX5_replaceByRelaxed 46 = .ok (.getfield 127, 3) := by decide +kernel
theorem dX5_replaceByRelaxed_49 : decode cX5_replaceByRelaxed 49 = .ok (.ireturn, 1) := by decide +kernel
theorem dX5_giveVerdict_0 : decode cX5_giveVerdict 0 = .ok (.aload_n 0, 1) := by decide +kernel
theorem dX5_giveVerdict_1 : decode cX5_giveVerdict 1 = .ok (.iload_n 1, 1) := by decide +kernel
theorem dX5_giveVerdict_2 : decode cX5_giveVerdict 2 = .ok (.invokevirtual 130, 3) := by decide +kernel
theorem dX5_giveVerdict_5 : decode cX5_giveVerdict 5 = .ok (.istore_n 2, 1) := by decide +kernel
theorem dX5_giveVerdict_6 : decode cX5_giveVerdict 6 = .ok (.iload_n 2, 1) := by decide +kernel
theorem dX5_giveVerdict_7 : decode cX5_giveVerdict 7 = .ok (.iconst (-1), 1) := by decide +kernel
theorem dX5_giveVerdict_8 : decode cX5_giveVerdict 8 = .ok (.if_icmp .ne 24, 3) := by decide +kernel
theorem dX5_giveVerdict_11 : decode cX5_giveVerdict 11 = .ok (.aload_n 0, 1) := by decide +kernel
theorem dX5_giveVerdict_12 : decode cX5_giveVerdict 12 = .ok (.getfield 12, 3) := by decide +kernel
theorem dX5_giveVerdict_15 : decode cX5_giveVerdict 15 = .ok (.iload_n 1, 1) := by decide +kernel
theorem dX5_giveVerdict_16 : decode cX5_giveVerdict 16 = .ok (.aload_n 0, 1) := by decide +kernel
theorem dX5_giveVerdict_17 : decode cX5_giveVerdict 17 = .ok (.getfield 12, 3) := by decide +kernel
theorem dX5_giveVerdict_20 : decode cX5_giveVerdict 20 = .ok (.getfield 59, 3) := by decide +kernel
theorem dX5_giveVerdict_23 : decode cX5_giveVerdict 23 = .ok (.iload_n 1, 1) := by decide +kernel
theorem dX5_giveVerdict_24 : decode cX5_giveVerdict 24 = .ok (.aaload, 1) := by decide +kernel
theorem dX5_giveVerdict_25 : decode cX5_giveVerdict 25 = .ok (.invokestatic 133, 3) := by decide +kernel
theorem dX5_giveVerdict_28 : decode cX5_giveVerdict 28 = .ok (.invokevirtual 137, 3) := by decide +kernel
theorem dX5_giveVerdict_31 : decode cX5_giveVerdict 31 = .ok (.istore_n 2, 1) := by decide +kernel
theorem dX5_giveVerdict_32 : decode cX5_giveVerdict 32 = .ok (.aload_n 0, 1) := by decide +kernel
theorem dX5_giveVerdict_33 : decode cX5_giveVerdict 33 = .ok (.getfield 12, 3) := by decide +kernel
theorem dX5_giveVerdict_36 : decode cX5_giveVerdict 36 = .ok (.getfield 95, 3) := by decide +kernel
theorem dX5_giveVerdict_39 : decode cX5_giveVerdict 39 = .ok (.iload_n 1, 1) := by decide +kernel
theorem dX5_giveVerdict_40 : decode cX5_giveVerdict 40 = .ok (.iload_n 2, 1) := by decide +kernel
theorem dX5_giveVerdict_41 : decode cX5_giveVerdict 41 = .ok (.iastore, 1) := by decide +kernel
theorem dX5_giveVerdict_42 : decode cX5_giveVerdict 42 = .ok (.return_, 1) := by decide +kernel
theorem dX5_looksTangled_0 : decode cX5_looksTangled 0 = .ok (.aload_n 0, 1) := by decide +kernel
theorem dX5_looksTangled_1 : decode cX5_looksTangled 1 = .ok (.invokevirtual 141, 3) := by decide +kernel
theorem dX5_looksTangled_4 : decode cX5_looksTangled 4 = .ok (.istore_n 1, 1) := by decide +kernel
theorem dX5_looksTangled_5 : decode cX5_looksTangled 5 = .ok (.aload_n 0, 1) := by decide +kernel
theorem dX5_looksTangled_6 : decode cX5_looksTangled 6 = .ok (.invokevirtual 144, 3) := by decide +kernel
theorem dX5_looksTangled_9 : decode cX5_looksTangled 9 = .ok (.ifCond .eq 14, 3) := by decide +kernel
theorem dX5_looksTangled_12 : decode cX5_looksTangled 12 = .ok (.iload_n 1, 1) := by decide +kernel
theorem dX5_looksTangled_13 : decode cX5_looksTangled 13 = .ok (.iconst 2, 1) := by decide +kernel
theorem dX5_looksTangled_14 : decode cX5_looksTangled 14 = .ok (.if_icmp .gt 9, 3) := by decide +kernel
theorem dX5_looksTangled_17 : decode cX5_looksTangled 17 = .ok (.iload_n 1, 1) := by decide +kernel
theorem dX5_looksTangled_18 : decode cX5_looksTangled 18 = .ok (.bipush (-2), 2) := by decide +kernel
theorem dX5_looksTangled_20 : decode cX5_looksTangled 20 = .ok (.if_icmp .ge 7, 3) := by decide +kernel
theorem dX5_looksTangled_23 : decode cX5_looksTangled 23 = .ok (.iconst 1, 1) := by decide +kernel
theorem dX5_looksTangled_24 : decode cX5_looksTangled 24 = .ok (.goto 4, 3) := by decide +kernel
theorem dX5_looksTangled_27 : decode cX5_looksTangled 27 = .ok (.iconst 0, 1) := by decide +kernel
theorem dX5_looksTangled_28 : decode cX5_looksTangled 28 = .ok (.ireturn, 1) := by decide +kernel
theorem dX5_reviewPrecedent_0 : decode cX5_reviewPrecedent 0 = .ok (.aload_n 0, 1) := by decide +kernel
theorem dX5_reviewPrecedent_1 : decode cX5_reviewPrecedent 1 = .ok (.getfield 12, 3) := by decide +kernel
theorem dX5_reviewPrecedent_4 : decode cX5_reviewPrecedent 4 = .ok (.getfield 91, 3) := by decide +kernel
theorem dX5_reviewPrecedent_7 : decode cX5_reviewPrecedent 7 = .ok (.iload_n 1, 1) := by decide +kernel
theorem dX5_reviewPrecedent_8 : decode cX5_reviewPrecedent 8 = .ok (.iconst 1, 1) := by decide +kernel
theorem dX5_reviewPrecedent_9 : decode cX5_reviewPrecedent 9 = .ok (.bastore, 1) := by decide +kernel
theorem dX5_reviewPrecedent_10 : decode cX5_reviewPrecedent 10 = .ok (.aload_n 0, 1) := by decide +kernel
theorem dX5_reviewPrecedent_11 : decode cX5_reviewPrecedent 11 = .ok (.getfield 28, 3) := by decide +kernel
theorem dX5_reviewPrecedent_14 : decode cX5_reviewPrecedent 14 = .ok (.aload_n 0, 1) := by decide +kernel
theorem dX5_reviewPrecedent_15 : decode cX5_reviewPrecedent 15 = .ok (.getfield 12, 3) := by decide +kernel
theorem dX5_reviewPrecedent_18 : decode cX5_reviewPrecedent 18 = .ok (.getfield 59, 3) := by decide +kernel
theorem dX5_reviewPrecedent_21 : decode cX5_reviewPrecedent 21 = .ok (.aload_n 0, 1) := by decide +kernel
theorem dX5_reviewPrecedent_22 : decode cX5_reviewPrecedent 22 = .ok (.getfield 12, 3) := by decide +kernel
theorem dX5_reviewPrecedent_25 : decode cX5_reviewPrecedent 25 = .ok (.getfield 147, 3) := by decide +kernel
theorem dX5_reviewPrecedent_28 : decode cX5_reviewPrecedent 28 = .ok (.iload_n 1, 1) := by decide +kernel
theorem dX5_reviewPrecedent_29 : decode cX5_reviewPrecedent 29 = .ok (.iaload, 1) := by decide +kernel
theorem dX5_reviewPrecedent_30 : decode cX5_reviewPrecedent 30 = .ok (.aaload, 1) := by decide +kernel
theorem dX5_reviewPrecedent_31 : decode cX5_reviewPrecedent 31 = .ok (.invokevirtual 150, 3) := by decide +kernel
theorem dX5_reviewPrecedent_34 : decode cX5_reviewPrecedent 34 = .ok (.aload_n 0, 1) := by decide +kernel
theorem dX5_reviewPrecedent_35 : decode cX5_reviewPrecedent 35 = .ok (.getfield 28, 3) := by decide +kernel
theorem dX5_reviewPrecedent_38 : decode cX5_reviewPrecedent 38 = .ok (.invokevirtual 153, 3) := by decide +kernel
theorem dX5_reviewPrecedent_41 : decode cX5_reviewPrecedent 41 = .ok (.iconst 1, 1) := by decide +kernel
theorem dX5_reviewPrecedent_42 : decode cX5_reviewPrecedent 42 = .ok (.if_icmp .eq 5, 3) := by decide +kernel
theorem dX5_reviewPrecedent_45 : decode cX5_reviewPrecedent 45 = .ok (.iconst 0, 1) := by decide +kernel
theorem dX5_reviewPrecedent_46 : decode cX5_reviewPrecedent 46 = .ok (.ireturn, 1) := by decide +kernel
theorem dX5_reviewPrecedent_47 : decode cX5_reviewPrecedent 47 = .ok (.aload_n 0, 1) := by decide +kernel
theorem dX5_reviewPrecedent_48 : decode cX5_reviewPrecedent 48 = .ok (.getfield 12, 3) := by decide +kernel
theorem dX5_reviewPrecedent_51 : decode cX5_reviewPrecedent 51 = .ok (.getfield 156, 3) := by decide +kernel
theorem dX5_reviewPrecedent_54 : decode cX5_reviewPrecedent 54 = .ok (.iload_n 1, 1) := by decide +kernel
theorem dX5_reviewPrecedent_55 : decode cX5_reviewPrecedent 55 = .ok (.aload_n 0, 1) := by decide +kernel
theorem dX5_reviewPrecedent_56 : decode cX5_reviewPrecedent 56 = .ok (.getfield 12, 3) := by decide +kernel
theorem dX5_reviewPrecedent_59 : decode cX5_reviewPrecedent 59 = .ok (.getfield 156, 3) := by decide +kernel
theorem dX5_reviewPrecedent_62 : decode cX5_reviewPrecedent 62 = .ok (.iload_n 1, 1) := by decide +kernel
theorem dX5_reviewPrecedent_63 : decode cX5_reviewPrecedent 63 = .ok (.baload, 1) := by decide +kernel
theorem dX5_reviewPrecedent_64 : decode cX5_reviewPrecedent 64 = .ok (.ifCond .ne 7, 3) := by decide +kernel
theorem dX5_reviewPrecedent_67 : decode cX5_reviewPrecedent 67 = .ok (.iconst 1, 1) := by decide +kernel
theorem dX5_reviewPrecedent_68 : decode cX5_reviewPrecedent 68 = .ok (.goto 4, 3) := by decide +kernel
theorem dX5_reviewPrecedent_71 : decode cX5_reviewPrecedent 71 = .ok (.iconst 0, 1) := by decide +kernel
theorem dX5_reviewPrecedent_72 : decode cX5_reviewPrecedent 72 = .ok (.bastore, 1) := by decide +kernel
theorem dX5_reviewPrecedent_73 : decode cX5_reviewPrecedent 73 = .ok (.aload_n 0, 1) := by decide +kernel
theorem dX5_reviewPrecedent_74 : decode cX5_reviewPrecedent 74 = .ok (.getfield 12, 3) := by decide +kernel
theorem dX5_reviewPrecedent_77 : decode cX5_reviewPrecedent 77 = .ok (.iload_n 1, 1) := by decide +kernel
theorem dX5_reviewPrecedent_78 : decode cX5_reviewPrecedent 78 = .ok (.invokevirtual 159, 3) := by decide +kernel
theorem dX5_reviewPrecedent_81 : decode cX5_reviewPrecedent 81 = .ok (.ireturn, 1) := by decide +kernel
theorem dX5_precedentFor_0 : decode cX5_precedentFor 0 = .ok (.aload_n 0, 1) := by decide +kernel
theorem dX5_precedentFor_1 : decode cX5_precedentFor 1 = .ok (.getfield 28, 3) := by decide +kernel
theorem dX5_precedentFor_4 : decode cX5_precedentFor 4 = .ok (.aload_n 0, 1) := by decide +kernel
theorem dX5_precedentFor_5 : decode cX5_precedentFor 5 = .ok (.getfield 12, 3) := by decide +kernel
theorem dX5_precedentFor_8 : decode cX5_precedentFor 8 = .ok (.getfield 59, 3) := by decide +kernel
theorem dX5_precedentFor_11 : decode cX5_precedentFor 11 = .ok (.iload_n 1, 1) := by decide +kernel
theorem dX5_precedentFor_12 : decode cX5_precedentFor 12 = .ok (.aaload, 1) := by decide +kernel
theorem dX5_precedentFor_13 : decode cX5_precedentFor 13 = .ok (.invokevirtual 150, 3) := by decide +kernel
theorem dX5_precedentFor_16 : decode cX5_precedentFor 16 = .ok (.iconst 0, 1) := by decide +kernel
theorem dX5_precedentFor_17 : decode cX5_precedentFor 17 = .ok (.istore_n 2, 1) := by decide +kernel
theorem dX5_precedentFor_18 : decode cX5_precedentFor 18 = .ok (.iload_n 2, 1) := by decide +kernel
theorem dX5_precedentFor_19 : decode cX5_precedentFor 19 = .ok (.aload_n 0, 1) := by decide +kernel
theorem dX5_precedentFor_20 : decode cX5_precedentFor 20 = .ok (.getfield 12, 3) := by decide +kernel
theorem dX5_precedentFor_23 : decode cX5_precedentFor 23 = .ok (.getfield 162, 3) := by decide +kernel
theorem dX5_precedentFor_26 : decode cX5_precedentFor 26 = .ok (.if_icmp .ge 49, 3) := by decide +kernel
theorem dX5_precedentFor_29 : decode cX5_precedentFor 29 = .ok (.aload_n 0, 1) := by decide +kernel
theorem dX5_precedentFor_30 : decode cX5_precedentFor 30 = .ok (.getfield 32, 3) := by decide +kernel
theorem dX5_precedentFor_33 : decode cX5_precedentFor 33 = .ok (.aload_n 0, 1) := by decide +kernel
theorem dX5_precedentFor_34 : decode cX5_precedentFor 34 = .ok (.getfield 12, 3) := by decide +kernel
theorem dX5_precedentFor_37 : decode cX5_precedentFor 37 = .ok (.getfield 59, 3) := by decide +kernel
theorem dX5_precedentFor_40 : decode cX5_precedentFor 40 = .ok (.aload_n 0, 1) := by decide +kernel
theorem dX5_precedentFor_41 : decode cX5_precedentFor 41 = .ok (.getfield 12, 3) := by decide +kernel
theorem dX5_precedentFor_44 : decode cX5_precedentFor 44 = .ok (.getfield 147, 3) := by decide +kernel
theorem dX5_precedentFor_47 : decode cX5_precedentFor 47 = .ok (.iload_n 2, 1) := by decide +kernel
theorem dX5_precedentFor_48 : decode cX5_precedentFor 48 = .ok (.iaload, 1) := by decide +kernel
theorem dX5_precedentFor_49 : decode cX5_precedentFor 49 = .ok (.aaload, 1) := by decide +kernel
theorem dX5_precedentFor_50 : decode cX5_precedentFor 50 = .ok (.invokevirtual 150, 3) := by decide +kernel
theorem dX5_precedentFor_53 : decode cX5_precedentFor 53 = .ok (.aload_n 0, 1) := by decide +kernel
theorem dX5_precedentFor_54 : decode cX5_precedentFor 54 = .ok (.getfield 28, 3) := by decide +kernel
theorem dX5_precedentFor_57 : decode cX5_precedentFor 57 = .ok (.aload_n 0, 1) := by decide +kernel
theorem dX5_precedentFor_58 : decode cX5_precedentFor 58 = .ok (.getfield 32, 3) := by decide +kernel
theorem dX5_precedentFor_61 : decode cX5_precedentFor 61 = .ok (.invokevirtual 165, 3) := by decide +kernel
theorem dX5_precedentFor_64 : decode cX5_precedentFor 64 = .ok (.ifCond .eq 5, 3) := by decide +kernel
theorem dX5_precedentFor_67 : decode cX5_precedentFor 67 = .ok (.iload_n 2, 1) := by decide +kernel
theorem dX5_precedentFor_68 : decode cX5_precedentFor 68 = .ok (.ireturn, 1) := by decide +kernel
theorem dX5_precedentFor_69 : decode cX5_precedentFor 69 = .ok (.iinc 2 1, 3) := by decide +kernel
theorem dX5_precedentFor_72 : decode cX5_precedentFor 72 = .ok (.goto (-54), 3) := by decide +kernel
theorem dX5_precedentFor_75 : decode cX5_precedentFor 75 = .ok (.iconst (-1), 1) := by decide +kernel
theorem dX5_precedentFor_76 : decode cX5_precedentFor 76 = .ok (.ireturn, 1) := by decide +kernel
theorem dX5_sameBraid_0 : decode cX5_sameBraid 0 = .ok (.aload_n 0, 1) := by decide +kernel
theorem dX5_sameBraid_1 : decode cX5_sameBraid 1 = .ok (.getfield 28, 3) := by decide +kernel
theorem dX5_sameBraid_4 : decode cX5_sameBraid 4 = .ok (.aload_n 0, 1) := by decide +kernel
theorem dX5_sameBraid_5 : decode cX5_sameBraid 5 = .ok (.getfield 12, 3) := by decide +kernel
theorem dX5_sameBraid_8 : decode cX5_sameBraid 8 = .ok (.getfield 59, 3) := by decide +kernel
theorem dX5_sameBraid_11 : decode cX5_sameBraid 11 = .ok (.iload_n 1, 1) := by decide +kernel
theorem dX5_sameBraid_12 : decode cX5_sameBraid 12 = .ok (.aaload, 1) := by decide +kernel
theorem dX5_sameBraid_13 : decode cX5_sameBraid 13 = .ok (.invokevirtual 150, 3) := by decide +kernel
theorem dX5_sameBraid_16 : decode cX5_sameBraid 16 = .ok (.aload_n 0, 1) := by decide +kernel
theorem dX5_sameBraid_17 : decode cX5_sameBraid 17 = .ok (.getfield 32, 3) := by decide +kernel
theorem dX5_sameBraid_20 : decode cX5_sameBraid 20 = .ok (.aload_n 0, 1) := by decide +kernel
theorem dX5_sameBraid_21 : decode cX5_sameBraid 21 = .ok (.getfield 12, 3) := by decide +kernel
theorem dX5_sameBraid_24 : decode cX5_sameBraid 24 = .ok (.getfield 59, 3) := by decide +kernel
theorem dX5_sameBraid_27 : decode cX5_sameBraid 27 = .ok (.iload_n 2, 1) := by decide +kernel
theorem dX5_sameBraid_28 : decode cX5_sameBraid 28 = .ok (.aaload, 1) := by decide +kernel
theorem dX5_sameBraid_29 : decode cX5_sameBraid 29 = .ok (.invokevirtual 150, 3) := by decide +kernel
theorem dX5_sameBraid_32 : decode cX5_sameBraid 32 = .ok (.aload_n 0, 1) := by decide +kernel
theorem dX5_sameBraid_33 : decode cX5_sameBraid 33 = .ok (.getfield 28, 3) := by decide +kernel
theorem dX5_sameBraid_36 : decode cX5_sameBraid 36 = .ok (.aload_n 0, 1) := by decide +kernel
theorem dX5_sameBraid_37 : decode cX5_sameBraid 37 = .ok (.getfield 32, 3) := by decide +kernel
theorem dX5_sameBraid_40 : decode cX5_sameBraid 40 = .ok (.invokevirtual 165, 3) := by decide +kernel
theorem dX5_sameBraid_43 : decode cX5_sameBraid 43 = .ok (.ireturn, 1) := by decide +kernel
theorem dX5_signOfQuotient_0 : decode cX5_signOfQuotient 0 = .ok (.aload_n 0, 1) := by decide +kernel
theorem dX5_signOfQuotient_1 : decode cX5_signOfQuotient 1 = .ok (.getfield 28, 3) := by decide +kernel
theorem dX5_signOfQuotient_4 : decode cX5_signOfQuotient 4 = .ok (.aload_n 0, 1) := by decide +kernel
theorem dX5_signOfQuotient_5 : decode cX5_signOfQuotient 5 = .ok (.getfield 12, 3) := by decide +kernel
theorem dX5_signOfQuotient_8 : decode cX5_signOfQuotient 8 = .ok (.getfield 59, 3) := by decide +kernel
theorem dX5_signOfQuotient_11 : decode cX5_signOfQuotient 11 = .ok (.iload_n 1, 1) := by decide +kernel
theorem dX5_signOfQuotient_12 : decode cX5_signOfQuotient 12 = .ok (.aaload, 1) := by decide +kernel
theorem dX5_signOfQuotient_13 : decode cX5_signOfQuotient 13 = .ok (.aload_n 0, 1) := by decide +kernel
theorem dX5_signOfQuotient_14 : decode cX5_signOfQuotient 14 = .ok (.getfield 12, 3) := by decide +kernel
theorem dX5_signOfQuotient_17 : decode cX5_signOfQuotient 17 = .ok (.getfield 59, 3) := by decide +kernel
theorem dX5_signOfQuotient_20 : decode cX5_signOfQuotient 20 = .ok (.iload_n 2, 1) := by decide +kernel
theorem dX5_signOfQuotient_21 : decode cX5_signOfQuotient 21 = .ok (.aaload, 1) := by decide +kernel
theorem dX5_signOfQuotient_22 : decode cX5_signOfQuotient 22 = .ok (.invokevirtual 169, 3) := by decide +kernel
theorem dX5_signOfQuotient_25 : decode cX5_signOfQuotient 25 = .ok (.aload_n 0, 1) := by decide +kernel
theorem dX5_signOfQuotient_26 : decode cX5_signOfQuotient 26 = .ok (.getfield 28, 3) := by decide +kernel
theorem dX5_signOfQuotient_29 : decode cX5_signOfQuotient 29 = .ok (.invokevirtual 153, 3) := by decide +kernel
theorem dX5_signOfQuotient_32 : decode cX5_signOfQuotient 32 = .ok (.ireturn, 1) := by decide +kernel
theorem dX5_caseOfRank_0 : decode cX5_caseOfRank 0 = .ok (.iconst 0, 1) := by decide +kernel
theorem dX5_caseOfRank_1 : decode cX5_caseOfRank 1 = .ok (.istore_n 2, 1) := by decide +kernel
theorem dX5_caseOfRank_2 : decode cX5_caseOfRank 2 = .ok (.iload_n 2, 1) := by decide +kernel
theorem dX5_caseOfRank_3 : decode cX5_caseOfRank 3 = .ok (.aload_n 0, 1) := by decide +kernel
theorem dX5_caseOfRank_4 : decode cX5_caseOfRank 4 = .ok (.getfield 12, 3) := by decide +kernel
theorem dX5_caseOfRank_7 : decode cX5_caseOfRank 7 = .ok (.getfield 173, 3) := by decide +kernel
theorem dX5_caseOfRank_10 : decode cX5_caseOfRank 10 = .ok (.if_icmp .ge 20, 3) := by decide +kernel
theorem dX5_caseOfRank_13 : decode cX5_caseOfRank 13 = .ok (.aload_n 0, 1) := by decide +kernel
theorem dX5_caseOfRank_14 : decode cX5_caseOfRank 14 = .ok (.iload_n 2, 1) := by decide +kernel
theorem dX5_caseOfRank_15 : decode cX5_caseOfRank 15 = .ok (.invokevirtual 176, 3) := by decide +kernel
theorem dX5_caseOfRank_18 : decode cX5_caseOfRank 18 = .ok (.iload_n 1, 1) := by decide +kernel
theorem dX5_caseOfRank_19 : decode cX5_caseOfRank 19 = .ok (.if_icmp .ne 5, 3) := by decide +kernel
theorem dX5_caseOfRank_22 : decode cX5_caseOfRank 22 = .ok (.iload_n 2, 1) := by decide +kernel
theorem dX5_caseOfRank_23 : decode cX5_caseOfRank 23 = .ok (.ireturn, 1) := by decide +kernel
theorem dX5_caseOfRank_24 : decode cX5_caseOfRank 24 = .ok (.iinc 2 1, 3) := by decide +kernel
theorem dX5_caseOfRank_27 : decode cX5_caseOfRank 27 = .ok (.goto (-25), 3) := by decide +kernel
theorem dX5_caseOfRank_30 : decode cX5_caseOfRank 30 = .ok (.iconst (-1), 1) := by decide +kernel
theorem dX5_caseOfRank_31 : decode cX5_caseOfRank 31 = .ok (.ireturn, 1) := by decide +kernel
theorem dX5_rankOf_0 : decode cX5_rankOf 0 = .ok (.iconst 0, 1) := by decide +kernel
theorem dX5_rankOf_1 : decode cX5_rankOf 1 = .ok (.istore_n 2, 1) := by decide +kernel
theorem dX5_rankOf_2 : decode cX5_rankOf 2 = .ok (.iconst 0, 1) := by decide +kernel
theorem dX5_rankOf_3 : decode cX5_rankOf 3 = .ok (.istore_n 3, 1) := by decide +kernel
theorem dX5_rankOf_4 : decode cX5_rankOf 4 = .ok (.iload_n 3, 1) := by decide +kernel
theorem dX5_rankOf_5 : decode cX5_rankOf 5 = .ok (.aload_n 0, 1) := by decide +kernel
theorem dX5_rankOf_6 : decode cX5_rankOf 6 = .ok (.getfield 12, 3) := by decide +kernel
theorem dX5_rankOf_9 : decode cX5_rankOf 9 = .ok (.getfield 173, 3) := by decide +kernel
theorem dX5_rankOf_12 : decode cX5_rankOf 12 = .ok (.if_icmp .ge 35, 3) := by decide +kernel
theorem dX5_rankOf_15 : decode cX5_rankOf 15 = .ok (.aload_n 0, 1) := by decide +kernel
theorem dX5_rankOf_16 : decode cX5_rankOf 16 = .ok (.iload_n 3, 1) := by decide +kernel
theorem dX5_rankOf_17 : decode cX5_rankOf 17 = .ok (.iload_n 1, 1) := by decide +kernel
theorem dX5_rankOf_18 : decode cX5_rankOf 18 = .ok (.invokevirtual 179, 3) := by decide +kernel
theorem dX5_rankOf_21 : decode cX5_rankOf 21 = .ok (.istore 4, 2) := by decide +kernel
theorem dX5_rankOf_23 : decode cX5_rankOf 23 = .ok (.iload 4, 2) := by decide +kernel
theorem dX5_rankOf_25 : decode cX5_rankOf 25 = .ok (.ifCond .gt 13, 3) := by decide +kernel
theorem dX5_rankOf_28 : decode cX5_rankOf 28 = .ok (.iload 4, 2) := by decide +kernel
theorem dX5_rankOf_30 : decode cX5_rankOf 30 = .ok (.ifCond .ne 11, 3) := by decide +kernel
theorem dX5_rankOf_33 : decode cX5_rankOf 33 = .ok (.iload_n 3, 1) := by decide +kernel
theorem dX5_rankOf_34 : decode cX5_rankOf 34 = .ok (.iload_n 1, 1) := by decide +kernel
theorem dX5_rankOf_35 : decode cX5_rankOf 35 = .ok (.if_icmp .ge 6, 3) := by decide +kernel
theorem dX5_rankOf_38 : decode cX5_rankOf 38 = .ok (.iinc 2 1, 3) := by decide +kernel
theorem dX5_rankOf_41 : decode cX5_rankOf 41 = .ok (.iinc 3 1, 3) := by decide +kernel
theorem dX5_rankOf_44 : decode cX5_rankOf 44 = .ok (.goto (-40), 3) := by decide +kernel
theorem dX5_rankOf_47 : decode cX5_rankOf 47 = .ok (.iload_n 2, 1) := by decide +kernel
theorem dX5_rankOf_48 : decode cX5_rankOf 48 = .ok (.ireturn, 1) := by decide +kernel
theorem dX5_agreesOn_0 : decode cX5_agreesOn 0 = .ok (.aload_n 0, 1) := by decide +kernel
theorem dX5_agreesOn_1 : decode cX5_agreesOn 1 = .ok (.getfield 21, 3) := by decide +kernel
theorem dX5_agreesOn_4 : decode cX5_agreesOn 4 = .ok (.aload_n 0, 1) := by decide +kernel
theorem dX5_agreesOn_5 : decode cX5_agreesOn 5 = .ok (.getfield 12, 3) := by decide +kernel
theorem dX5_agreesOn_8 : decode cX5_agreesOn 8 = .ok (.getfield 59, 3) := by decide +kernel
theorem dX5_agreesOn_11 : decode cX5_agreesOn 11 = .ok (.iload_n 1, 1) := by decide +kernel
theorem dX5_agreesOn_12 : decode cX5_agreesOn 12 = .ok (.aaload, 1) := by decide +kernel
theorem dX5_agreesOn_13 : decode cX5_agreesOn 13 = .ok (.aload_n 0, 1) := by decide +kernel
theorem dX5_agreesOn_14 : decode cX5_agreesOn 14 = .ok (.getfield 12, 3) := by decide +kernel
theorem dX5_agreesOn_17 : decode cX5_agreesOn 17 = .ok (.getfield 59, 3) := by decide +kernel
theorem dX5_agreesOn_20 : decode cX5_agreesOn 20 = .ok (.iload_n 2, 1) := by decide +kernel
theorem dX5_agreesOn_21 : decode cX5_agreesOn 21 = .ok (.aaload, 1) := by decide +kernel
theorem dX5_agreesOn_22 : decode cX5_agreesOn 22 = .ok (.invokevirtual 183, 3) := by decide +kernel
theorem dX5_agreesOn_25 : decode cX5_agreesOn 25 = .ok (.aload_n 0, 1) := by decide +kernel
theorem dX5_agreesOn_26 : decode cX5_agreesOn 26 = .ok (.getfield 21, 3) := by decide +kernel
theorem dX5_agreesOn_29 : decode cX5_agreesOn 29 = .ok (.getfield 84, 3) := by decide +kernel
theorem dX5_agreesOn_32 : decode cX5_agreesOn 32 = .ok (.ifCond .ne 21, 3) := by decide +kernel
theorem dX5_agreesOn_35 : decode cX5_agreesOn 35 = .ok (.aload_n 0, 1) := by decide +kernel
theorem dX5_agreesOn_36 : decode cX5_agreesOn 36 = .ok (.getfield 21, 3) := by decide +kernel
theorem dX5_agreesOn_39 : decode cX5_agreesOn 39 = .ok (.invokevirtual 186, 3) := by decide +kernel
theorem dX5_agreesOn_42 : decode cX5_agreesOn 42 = .ok (.aload_n 0, 1) := by decide +kernel
theorem dX5_agreesOn_43 : decode cX5_agreesOn 43 = .ok (.iload_n 1, 1) := by decide +kernel
theorem dX5_agreesOn_44 : decode cX5_agreesOn 44 = .ok (.iload_n 2, 1) := by decide +kernel
theorem dX5_agreesOn_45 : decode cX5_agreesOn 45 = .ok (.invokevirtual 179, 3) := by decide +kernel
theorem dX5_agreesOn_48 : decode cX5_agreesOn 48 = .ok (.if_icmp .eq 5, 3) := by decide +kernel
theorem dX5_agreesOn_51 : decode cX5_agreesOn 51 = .ok (.iconst 0, 1) := by decide +kernel
theorem dX5_agreesOn_52 : decode cX5_agreesOn 52 = .ok (.ireturn, 1) := by decide +kernel
theorem dX5_agreesOn_53 : decode cX5_agreesOn 53 = .ok (.aload_n 0, 1) := by decide +kernel
theorem dX5_agreesOn_54 : decode cX5_agreesOn 54 = .ok (.getfield 12, 3) := by decide +kernel
theorem dX5_agreesOn_57 : decode cX5_agreesOn 57 = .ok (.iload_n 1, 1) := by decide +kernel
theorem dX5_agreesOn_58 : decode cX5_agreesOn 58 = .ok (.invokevirtual 56, 3) := by decide +kernel
theorem dX5_agreesOn_61 : decode cX5_agreesOn 61 = .ok (.ifCond .eq 23, 3) := by decide +kernel
theorem dX5_agreesOn_64 : decode cX5_agreesOn 64 = .ok (.aload_n 0, 1) := by decide +kernel
theorem dX5_agreesOn_65 : decode cX5_agreesOn 65 = .ok (.getfield 12, 3) := by decide +kernel
theorem dX5_agreesOn_68 : decode cX5_agreesOn 68 = .ok (.iload_n 2, 1) := by decide +kernel
theorem dX5_agreesOn_69 : decode cX5_agreesOn 69 = .ok (.invokevirtual 56, 3) := by decide +kernel
theorem dX5_agreesOn_72 : decode cX5_agreesOn 72 = .ok (.ifCond .eq 12, 3) := by decide +kernel
theorem dX5_agreesOn_75 : decode cX5_agreesOn 75 = .ok (.aload_n 0, 1) := by decide +kernel
theorem dX5_agreesOn_76 : decode cX5_agreesOn 76 = .ok (.iload_n 1, 1) := by decide +kernel
theorem dX5_agreesOn_77 : decode cX5_agreesOn 77 = .ok (.iload_n 2, 1) := by decide +kernel
theorem dX5_agreesOn_78 : decode cX5_agreesOn 78 = .ok (.invokevirtual 189, 3) := by decide +kernel
theorem dX5_agreesOn_81 : decode cX5_agreesOn 81 = .ok (.ifCond .ne 5, 3) := by decide +kernel
theorem dX5_agreesOn_84 : decode cX5_agreesOn 84 = .ok (.iconst 1, 1) := by decide +kernel
theorem dX5_agreesOn_85 : decode cX5_agreesOn 85 = .ok (.ireturn, 1) := by decide +kernel
theorem dX5_agreesOn_86 : decode cX5_agreesOn 86 = .ok (.aload_n 0, 1) := by decide +kernel
theorem dX5_agreesOn_87 : decode cX5_agreesOn 87 = .ok (.getfield 12, 3) := by decide +kernel
theorem dX5_agreesOn_90 : decode cX5_agreesOn 90 = .ok (.getfield 95, 3) := by decide +kernel
theorem dX5_agreesOn_93 : decode cX5_agreesOn 93 = .ok (.iload_n 1, 1) := by decide +kernel
theorem dX5_agreesOn_94 : decode cX5_agreesOn 94 = .ok (.iaload, 1) := by decide +kernel
theorem dX5_agreesOn_95 : decode cX5_agreesOn 95 = .ok (.aload_n 0, 1) := by decide +kernel
theorem dX5_agreesOn_96 : decode cX5_agreesOn 96 = .ok (.getfield 12, 3) := by decide +kernel
theorem dX5_agreesOn_99 : decode cX5_agreesOn 99 = .ok (.getfield 95, 3) := by decide +kernel
theorem dX5_agreesOn_102 : decode cX5_agreesOn 102 = .ok (.iload_n 2, 1) := by decide +kernel
theorem dX5_agreesOn_103 : decode cX5_agreesOn 103 = .ok (.iaload, 1) := by decide +kernel
theorem dX5_agreesOn_104 : decode cX5_agreesOn 104 = .ok (.if_icmp .ne 7, 3) := by decide +kernel
theorem dX5_agreesOn_107 : decode cX5_agreesOn 107 = .ok (.iconst 1, 1) := by decide +kernel
theorem dX5_agreesOn_108 : decode cX5_agreesOn 108 = .ok (.goto 4, 3) := by decide +kernel
theorem dX5_agreesOn_111 : decode cX5_agreesOn 111 = .ok (.iconst 0, 1) := by decide +kernel
theorem dX5_agreesOn_112 : decode cX5_agreesOn 112 = .ok (.ireturn, 1) := by decide +kernel
theorem dX7_init_0 : decode cX7_init 0 = .ok (.aload_n 0, 1) := by decide +kernel
theorem dX7_init_1 : decode cX7_init 1 = .ok (.invokespecial 3, 3) := by decide +kernel
theorem dX7_init_4 : decode cX7_init 4 = .ok (.aload_n 0, 1) := by decide +kernel
theorem dX7_init_5 : decode cX7_init 5 = .ok (.bipush 60, 2) := by decide +kernel
theorem dX7_init_7 : decode cX7_init 7 = .ok (.newarray .char, 2) := by decide +kernel
theorem dX7_init_9 : decode cX7_init 9 = .ok (.putfield 9, 3) := by decide +kernel
theorem dX7_init_12 : decode cX7_init 12 = .ok (.aload_n 0, 1) := by decide +kernel
theorem dX7_init_13 : decode cX7_init 13 = .ok (.iconst 0, 1) := by decide +kernel
theorem dX7_init_14 : decode cX7_init 14 = .ok (.putfield 15, 3) := by decide +kernel
theorem dX7_init_17 : decode cX7_init 17 = .ok (.aload_n 0, 1) := by decide +kernel
theorem dX7_init_18 : decode cX7_init 18 = .ok (.bipush 12, 2) := by decide +kernel
theorem dX7_init_20 : decode cX7_init 20 = .ok (.anewarray 19, 3) := by decide +kernel
theorem dX7_init_23 : decode cX7_init 23 = .ok (.putfield 21, 3) := by decide +kernel
theorem dX7_init_26 : decode cX7_init 26 = .ok (.aload_n 0, 1) := by decide +kernel
theorem dX7_init_27 : decode cX7_init 27 = .ok (.bipush 12, 2) := by decide +kernel
theorem dX7_init_29 : decode cX7_init 29 = .ok (.newarray .int, 2) := by decide +kernel
theorem dX7_init_31 : decode cX7_init 31 = .ok (.putfield 25, 3) := by decide +kernel
theorem dX7_init_34 : decode cX7_init 34 = .ok (.aload_n 0, 1) := by decide +kernel
theorem dX7_init_35 : decode cX7_init 35 = .ok (.bipush 12, 2) := by decide +kernel
theorem dX7_init_37 : decode cX7_init 37 = .ok (.newarray .int, 2) := by decide +kernel
theorem dX7_init_39 : decode cX7_init 39 = .ok (.putfield 29, 3) := by decide +kernel
theorem dX7_init_42 : decode cX7_init 42 = .ok (.aload_n 0, 1) := by decide +kernel
theorem dX7_init_43 : decode cX7_init 43 = .ok (.iconst 0, 1) := by decide +kernel
theorem dX7_init_44 : decode cX7_init 44 = .ok (.putfield 32, 3) := by decide +kernel
theorem dX7_init_47 : decode cX7_init 47 = .ok (.aload_n 0, 1) := by decide +kernel
theorem dX7_init_48 : decode cX7_init 48 = .ok (.iconst 0, 1) := by decide +kernel
theorem dX7_init_49 : decode cX7_init 49 = .ok (.putfield 35, 3) := by decide +kernel
theorem dX7_init_52 : decode cX7_init 52 = .ok (.iconst 0, 1) := by decide +kernel
theorem dX7_init_53 : decode cX7_init 53 = .ok (.istore_n 1, 1) := by decide +kernel
theorem dX7_init_54 : decode cX7_init 54 = .ok (.iload_n 1, 1) := by decide +kernel
theorem dX7_init_55 : decode cX7_init 55 = .ok (.bipush 12, 2) := by decide +kernel
theorem dX7_init_57 : decode cX7_init 57 = .ok (.if_icmp .ge 18, 3) := by decide +kernel
theorem dX7_init_60 : decode cX7_init 60 = .ok (.aload_n 0, 1) := by decide +kernel
theorem dX7_init_61 : decode cX7_init 61 = .ok (.getfield 21, 3) := by decide +kernel
theorem dX7_init_64 : decode cX7_init 64 = .ok (.iload_n 1, 1) := by decide +kernel
theorem dX7_init_65 : decode cX7_init 65 = .ok (.getstatic 38, 3) := by decide +kernel
theorem dX7_init_68 : decode cX7_init 68 = .ok (.aastore, 1) := by decide +kernel
theorem dX7_init_69 : decode cX7_init 69 = .ok (.iinc 1 1, 3) := by decide +kernel
theorem dX7_init_72 : decode cX7_init 72 = .ok (.goto (-18), 3) := by decide +kernel
theorem dX7_init_75 : decode cX7_init 75 = .ok (.return_, 1) := by decide +kernel
theorem dX7_isFull_0 : decode cX7_isFull 0 = .ok (.aload_n 0, 1) := by decide +kernel
theorem dX7_isFull_1 : decode cX7_isFull 1 = .ok (.getfield 15, 3) := by decide +kernel
theorem dX7_isFull_4 : decode cX7_isFull 4 = .ok (.bipush 60, 2) := by decide +kernel
theorem dX7_isFull_6 : decode cX7_isFull 6 = .ok (.if_icmp .lt 7, 3) := by decide +kernel
theorem dX7_isFull_9 : decode cX7_isFull 9 = .ok (.iconst 1, 1) := by decide +kernel
theorem dX7_isFull_10 : decode cX7_isFull 10 = .ok (.goto 4, 3) := by decide +kernel
theorem dX7_isFull_13 : decode cX7_isFull 13 = .ok (.iconst 0, 1) := by decide +kernel
theorem dX7_isFull_14 : decode cX7_isFull 14 = .ok (.ireturn, 1) := by decide +kernel
theorem dX7_write_0 : decode cX7_write 0 = .ok (.aload_n 0, 1) := by decide +kernel
theorem dX7_write_1 : decode cX7_write 1 = .ok (.getfield 15, 3) := by decide +kernel
theorem dX7_write_4 : decode cX7_write 4 = .ok (.bipush 60, 2) := by decide +kernel
theorem dX7_write_6 : decode cX7_write 6 = .ok (.if_icmp .ge 23, 3) := by decide +kernel
theorem dX7_write_9 : decode cX7_write 9 = .ok (.aload_n 0, 1) := by decide +kernel
theorem dX7_write_10 : decode cX7_write 10 = .ok (.getfield 9, 3) := by decide +kernel
theorem dX7_write_13 : decode cX7_write 13 = .ok (.aload_n 0, 1) := by decide +kernel
theorem dX7_write_14 : decode cX7_write 14 = .ok (.getfield 15, 3) := by decide +kernel
theorem dX7_write_17 : decode cX7_write 17 = .ok (.iload_n 1, 1) := by decide +kernel
theorem dX7_write_18 : decode cX7_write 18 = .ok (.castore, 1) := by decide +kernel
theorem dX7_write_19 : decode cX7_write 19 = .ok (.aload_n 0, 1) := by decide +kernel
theorem dX7_write_20 : decode cX7_write 20 = .ok (.dup, 1) := by decide +kernel
theorem dX7_write_21 : decode cX7_write 21 = .ok (.getfield 15, 3) := by decide +kernel
theorem dX7_write_24 : decode cX7_write 24 = .ok (.iconst 1, 1) := by decide +kernel
theorem dX7_write_25 : decode cX7_write 25 = .ok (.iadd, 1) := by decide +kernel
theorem dX7_write_26 : decode cX7_write 26 = .ok (.putfield 15, 3) := by decide +kernel
theorem dX7_write_29 : decode cX7_write 29 = .ok (.aload_n 0, 1) := by decide +kernel
theorem dX7_write_30 : decode cX7_write 30 = .ok (.getfield 15, 3) := by decide +kernel
theorem dX7_write_33 : decode cX7_write 33 = .ok (.ireturn, 1) := by decide +kernel
theorem dX7_empty_0 : decode cX7_empty 0 = .ok (.aload_n 0, 1) := by decide +kernel
theorem dX7_empty_1 : decode cX7_empty 1 = .ok (.iconst 0, 1) := by decide +kernel
theorem dX7_empty_2 : decode cX7_empty 2 = .ok (.putfield 15, 3) := by decide +kernel
theorem dX7_empty_5 : decode cX7_empty 5 = .ok (.return_, 1) := by decide +kernel
theorem dX7_parse_0 : decode cX7_parse 0 = .ok (.aload_n 0, 1) := by decide +kernel
theorem dX7_parse_1 : decode cX7_parse 1 = .ok (.iconst 0, 1) := by decide +kernel
theorem dX7_parse_2 : decode cX7_parse 2 = .ok (.putfield 32, 3) := by decide +kernel
theorem dX7_parse_5 : decode cX7_parse 5 = .ok (.aload_n 0, 1) := by decide +kernel
theorem dX7_parse_6 : decode cX7_parse 6 = .ok (.iconst 0, 1) := by decide +kernel
theorem dX7_parse_7 : decode cX7_parse 7 = .ok (.putfield 35, 3) := by decide +kernel
theorem dX7_parse_10 : decode cX7_parse 10 = .ok (.iconst 0, 1) := by decide +kernel
theorem dX7_parse_11 : decode cX7_parse 11 = .ok (.istore_n 1, 1) := by decide +kernel
theorem dX7_parse_12 : decode cX7_parse 12 = .ok (.iload_n 1, 1) := by decide +kernel
theorem dX7_parse_13 : decode cX7_parse 13 = .ok (.bipush 60, 2) := by decide +kernel
theorem dX7_parse_15 : decode cX7_parse 15 = .ok (.if_icmp .gt 42, 3) := by decide +kernel
theorem dX7_parse_18 : decode cX7_parse 18 = .ok (.aload_n 0, 1) := by decide +kernel
theorem dX7_parse_19 : decode cX7_parse 19 = .ok (.invokevirtual 42, 3) := by decide +kernel
theorem dX7_parse_22 : decode cX7_parse 22 = .ok (.ifCond .ne 5, 3) := by decide +kernel
theorem dX7_parse_25 : decode cX7_parse 25 = .ok (.iconst 0, 1) := by decide +kernel
theorem dX7_parse_26 : decode cX7_parse 26 = .ok (.ireturn, 1) := by decide +kernel
theorem dX7_parse_27 : decode cX7_parse 27 = .ok (.aload_n 0, 1) := by decide +kernel
theorem dX7_parse_28 : decode cX7_parse 28 = .ok (.getfield 35, 3) := by decide +kernel
theorem dX7_parse_31 : decode cX7_parse 31 = .ok (.aload_n 0, 1) := by decide +kernel
theorem dX7_parse_32 : decode cX7_parse 32 = .ok (.getfield 15, 3) := by decide +kernel
theorem dX7_parse_35 : decode cX7_parse 35 = .ok (.if_icmp .ne 5, 3) := by decide +kernel
theorem dX7_parse_38 : decode cX7_parse 38 = .ok (.iconst 1, 1) := by decide +kernel
theorem dX7_parse_39 : decode cX7_parse 39 = .ok (.ireturn, 1) := by decide +kernel
theorem dX7_parse_40 : decode cX7_parse 40 = .ok (.aload_n 0, 1) := by decide +kernel
theorem dX7_parse_41 : decode cX7_parse 41 = .ok (.bipush 59, 2) := by decide +kernel
theorem dX7_parse_43 : decode cX7_parse 43 = .ok (.invokevirtual 46, 3) := by decide +kernel
theorem dX7_parse_46 : decode cX7_parse 46 = .ok (.ifCond .ne 5, 3) := by decide +kernel
theorem dX7_parse_49 : decode cX7_parse 49 = .ok (.iconst 0, 1) := by decide +kernel
theorem dX7_parse_50 : decode cX7_parse 50 = .ok (.ireturn, 1) := by decide +kernel
theorem dX7_parse_51 : decode cX7_parse 51 = .ok (.iinc 1 1, 3) := by decide +kernel
theorem dX7_parse_54 : decode cX7_parse 54 = .ok (.goto (-42), 3) := by decide +kernel
theorem dX7_parse_57 : decode cX7_parse 57 = .ok (.iconst 0, 1) := by decide +kernel
theorem dX7_parse_58 : decode cX7_parse 58 = .ok (.ireturn, 1) := by decide +kernel
theorem dX7_readCommand_0 : decode cX7_readCommand 0 = .ok (.iconst 0, 1) := by decide +kernel
theorem dX7_readCommand_1 : decode cX7_readCommand 1 = .ok (.istore_n 1, 1) := by decide +kernel
theorem dX7_readCommand_2 : decode cX7_readCommand 2 = .ok (.iconst 0, 1) := by decide +kernel
theorem dX7_readCommand_3 : decode cX7_readCommand 3 = .ok (.istore_n 2, 1) := by decide +kernel
theorem dX7_readCommand_4 : decode cX7_readCommand 4 = .ok (.iload_n 2, 1) := by decide +kernel
theorem dX7_readCommand_5 : decode cX7_readCommand 5 = .ok (.getstatic 50, 3) := by decide +kernel
theorem dX7_readCommand_8 : decode cX7_readCommand 8 = .ok (.arraylength, 1) := by decide +kernel
theorem dX7_readCommand_9 : decode cX7_readCommand 9 = .ok (.if_icmp .ge 61, 3) := by decide +kernel
theorem dX7_readCommand_12 : decode cX7_readCommand 12 = .ok (.getstatic 50, 3) := by decide +kernel
theorem dX7_readCommand_15 : decode cX7_readCommand 15 = .ok (.iload_n 2, 1) := by decide +kernel
theorem dX7_readCommand_16 : decode cX7_readCommand 16 = .ok (.aaload, 1) := by decide +kernel
theorem dX7_readCommand_17 : decode cX7_readCommand 17 = .ok (.astore_n 3, 1) := by decide +kernel
theorem dX7_readCommand_18 : decode cX7_readCommand 18 = .ok (.aload_n 0, 1) := by decide +kernel
theorem dX7_readCommand_19 : decode cX7_readCommand 19 = .ok (.aload_n 3, 1) := by decide +kernel
theorem dX7_readCommand_20 : decode cX7_readCommand 20 = .ok (.getfield 53, 3) := by decide +kernel
theorem dX7_readCommand_23 : decode cX7_readCommand 23 = .ok (.invokevirtual 57, 3) := by decide +kernel
theorem dX7_readCommand_26 : decode cX7_readCommand 26 = .ok (.istore 4, 2) := by decide +kernel
theorem dX7_readCommand_28 : decode cX7_readCommand 28 = .ok (.iload 4, 2) := by decide +kernel
theorem dX7_readCommand_30 : decode cX7_readCommand 30 = .ok (.aload_n 3, 1) := by decide +kernel
theorem dX7_readCommand_31 : decode cX7_readCommand 31 = .ok (.getfield 53, 3) := by decide +kernel
theorem dX7_readCommand_34 : decode cX7_readCommand 34 = .ok (.invokevirtual 61, 3) := by decide +kernel
theorem dX7_readCommand_37 : decode cX7_readCommand 37 = .ok (.if_icmp .ne 20, 3) := by decide +kernel
theorem dX7_readCommand_40 : decode cX7_readCommand 40 = .ok (.aload_n 0, 1) := by decide +kernel
theorem dX7_readCommand_41 : decode cX7_readCommand 41 = .ok (.dup, 1) := by decide +kernel
theorem dX7_readCommand_42 : decode cX7_readCommand 42 = .ok (.getfield 35, 3) := by decide +kernel
theorem dX7_readCommand_45 : decode cX7_readCommand 45 = .ok (.iload 4, 2) := by decide +kernel
theorem dX7_readCommand_47 : decode cX7_readCommand 47 = .ok (.iadd, 1) := by decide +kernel
theorem dX7_readCommand_48 : decode cX7_readCommand 48 = .ok (.putfield 35, 3) := by decide +kernel
theorem dX7_readCommand_51 : decode cX7_readCommand 51 = .ok (.aload_n 0, 1) := by decide +kernel
theorem dX7_readCommand_52 : decode cX7_readCommand 52 = .ok (.aload_n 3, 1) := by decide +kernel
theorem dX7_readCommand_53 : decode cX7_readCommand 53 = .ok (.invokevirtual 66, 3) := by decide +kernel
theorem dX7_readCommand_56 : decode cX7_readCommand 56 = .ok (.ireturn, 1) := by decide +kernel
theorem dX7_readCommand_57 : decode cX7_readCommand 57 = .ok (.iload_n 1, 1) := by decide +kernel
theorem dX7_readCommand_58 : decode cX7_readCommand 58 = .ok (.iload 4, 2) := by decide +kernel
theorem dX7_readCommand_60 : decode cX7_readCommand 60 = .ok (.invokestatic 70, 3) := by decide +kernel
theorem dX7_readCommand_63 : decode cX7_readCommand 63 = .ok (.istore_n 1, 1) := by decide +kernel
theorem dX7_readCommand_64 : decode cX7_readCommand 64 = .ok (.iinc 2 1, 3) := by decide +kernel
theorem dX7_readCommand_67 : decode cX7_readCommand 67 = .ok (.goto (-63), 3) := by decide +kernel
theorem dX7_readCommand_70 : decode cX7_readCommand 70 = .ok (.aload_n 0, 1) := by decide +kernel
theorem dX7_readCommand_71 : decode cX7_readCommand 71 = .ok (.dup, 1) := by decide +kernel
theorem dX7_readCommand_72 : decode cX7_readCommand 72 = .ok (.getfield 35, 3) := by decide +kernel
theorem dX7_readCommand_75 : decode cX7_readCommand 75 = .ok (.iload_n 1, 1) := by decide +kernel
theorem dX7_readCommand_76 : decode cX7_readCommand 76 = .ok (.iadd, 1) := by decide +kernel
theorem dX7_readCommand_77 : decode cX7_readCommand 77 = .ok (.putfield 35, 3) := by decide +kernel
theorem dX7_readCommand_80 : decode cX7_readCommand 80 = .ok (.iconst 0, 1) := by decide +kernel
theorem dX7_readCommand_81 : decode cX7_readCommand 81 = .ok (.ireturn, 1) := by decide +kernel
theorem dX7_countMatching_0 : decode cX7_countMatching 0 = .ok (.iconst 0, 1) := by decide +kernel
theorem dX7_countMatching_1 : decode cX7_countMatching 1 = .ok (.istore_n 2, 1) := by decide +kernel
theorem dX7_countMatching_2 : decode cX7_countMatching 2 = .ok (.iload_n 2, 1) := by decide +kernel
theorem dX7_countMatching_3 : decode cX7_countMatching 3 = .ok (.aload_n 1, 1) := by decide +kernel
theorem dX7_countMatching_4 : decode cX7_countMatching 4 = .ok (.invokevirtual 61, 3) := by decide +kernel
theorem dX7_countMatching_7 : decode cX7_countMatching 7 = .ok (.if_icmp .ge 41, 3) := by decide +kernel
theorem dX7_countMatching_10 : decode cX7_countMatching 10 = .ok (.aload_n 0, 1) := by decide +kernel
theorem dX7_countMatching_11 : decode cX7_countMatching 11 = .ok (.getfield 35, 3) := by decide +kernel
theorem dX7_countMatching_14 : decode cX7_countMatching 14 = .ok (.iload_n 2, 1) := by decide +kernel
theorem dX7_countMatching_15 : decode cX7_countMatching 15 = .ok (.iadd, 1) := by decide +kernel
theorem dX7_countMatching_16 : decode cX7_countMatching 16 = .ok (.aload_n 0, 1) := by decide +kernel
theorem dX7_countMatching_17 : decode cX7_countMatching 17 = .ok (.getfield 15, 3) := by decide +kernel
theorem dX7_countMatching_20 : decode cX7_countMatching 20 = .ok (.if_icmp .ge 28, 3) := by decide +kernel
theorem dX7_countMatching_23 : decode cX7_countMatching 23 = .ok (.aload_n 0, 1) := by decide +kernel
theorem dX7_countMatching_24 : decode cX7_countMatching 24 = .ok (.getfield 9, 3) := by decide +kernel
theorem dX7_countMatching_27 : decode cX7_countMatching 27 = .ok (.aload_n 0, 1) := by decide +kernel
theorem dX7_countMatching_28 : decode cX7_countMatching 28 = .ok (.getfield 35, 3) := by decide +kernel
theorem dX7_countMatching_31 : decode cX7_countMatching 31 = .ok (.iload_n 2, 1) := by decide +kernel
theorem dX7_countMatching_32 : decode cX7_countMatching 32 = .ok (.iadd, 1) := by decide +kernel
theorem dX7_countMatching_33 : decode cX7_countMatching 33 = .ok (.caload, 1) := by decide +kernel
theorem dX7_countMatching_34 : decode cX7_countMatching 34 = .ok (.aload_n 1, 1) := by decide +kernel
theorem dX7_countMatching_35 : decode cX7_countMatching 35 = .ok (.iload_n 2, 1) := by decide +kernel
theorem dX7_countMatching_36 : decode cX7_countMatching 36 = .ok (.invokevirtual 76, 3) := by decide +kernel
theorem dX7_countMatching_39 : decode cX7_countMatching 39 = .ok (.if_icmp .ne 9, 3) := by decide +kernel
theorem dX7_countMatching_42 : decode cX7_countMatching 42 = .ok (.iinc 2 1, 3) := by decide +kernel
theorem dX7_countMatching_45 : decode cX7_countMatching 45 = .ok (.goto (-43), 3) := by decide +kernel
theorem dX7_countMatching_48 : decode cX7_countMatching 48 = .ok (.iload_n 2, 1) := by decide +kernel
theorem dX7_countMatching_49 : decode cX7_countMatching 49 = .ok (.ireturn, 1) := by decide +kernel
theorem dX7_readParameters_0 : decode cX7_readParameters 0 = .ok (.iconst 0, 1) := by decide +kernel
theorem dX7_readParameters_1 : decode cX7_readParameters 1 = .ok (.istore_n 2, 1) := by decide +kernel
theorem dX7_readParameters_2 : decode cX7_readParameters 2 = .ok (.iconst 0, 1) := by decide +kernel
theorem dX7_readParameters_3 : decode cX7_readParameters 3 = .ok (.istore_n 3, 1) := by decide +kernel
theorem dX7_readParameters_4 : decode cX7_readParameters 4 = .ok (.aload_n 1, 1) := by decide +kernel
theorem dX7_readParameters_5 : decode cX7_readParameters 5 = .ok (.getfield 80, 3) := by decide +kernel
theorem dX7_readParameters_8 : decode cX7_readParameters 8 = .ok (.ifCond .eq 67, 3) := by decide +kernel
theorem dX7_readParameters_11 : decode cX7_readParameters 11 = .ok (.aload_n 0, 1) := by decide +kernel
theorem dX7_readParameters_12 : decode cX7_readParameters 12 = .ok (.getfield 35, 3) := by decide +kernel
theorem dX7_readParameters_15 : decode cX7_readParameters 15 = .ok (.aload_n 0, 1) := by decide +kernel
theorem dX7_readParameters_16 : decode cX7_readParameters 16 = .ok (.getfield 15, 3) := by decide +kernel
theorem dX7_readParameters_19 : decode cX7_readParameters 19 = .ok (.if_icmp .ge 31, 3) := by decide +kernel
theorem dX7_readParameters_22 : decode cX7_readParameters 22 = .ok (.aload_n 0, 1) := by decide +kernel
theorem dX7_readParameters_23 : decode cX7_readParameters 23 = .ok (.getfield 9, 3) := by decide +kernel
theorem dX7_readParameters_26 : decode cX7_readParameters 26 = .ok (.aload_n 0, 1) := by decide +kernel
theorem dX7_readParameters_27 : decode cX7_readParameters 27 = .ok (.getfield 35, 3) := by decide +kernel
theorem dX7_readParameters_30 : decode cX7_readParameters 30 = .ok (.caload, 1) := by decide +kernel
theorem dX7_readParameters_31 : decode cX7_readParameters 31 = .ok (.bipush 48, 2) := by decide +kernel
theorem dX7_readParameters_33 : decode cX7_readParameters 33 = .ok (.if_icmp .lt 17, 3) := by decide +kernel
theorem dX7_readParameters_36 : decode cX7_readParameters 36 = .ok (.aload_n 0, 1) := by decide +kernel
theorem dX7_readParameters_37 : decode cX7_readParameters 37 = .ok (.getfield 9, 3) := by decide +kernel
theorem dX7_readParameters_40 : decode cX7_readParameters 40 = .ok (.aload_n 0, 1) := by decide +kernel
theorem dX7_readParameters_41 : decode cX7_readParameters 41 = .ok (.getfield 35, 3) := by decide +kernel
theorem dX7_readParameters_44 : decode cX7_readParameters 44 = .ok (.caload, 1) := by decide +kernel
theorem dX7_readParameters_45 : decode cX7_readParameters 45 = .ok (.bipush 57, 2) := by decide +kernel
theorem dX7_readParameters_47 : decode cX7_readParameters 47 = .ok (.if_icmp .le 5, 3) := by decide +kernel
theorem dX7_readParameters_50 : decode cX7_readParameters 50 = .ok (.iconst 0, 1) := by decide +kernel
theorem dX7_readParameters_51 : decode cX7_readParameters 51 = .ok (.ireturn, 1) := by decide +kernel
theorem dX7_readParameters_52 : decode cX7_readParameters 52 = .ok (.aload_n 0, 1) := by decide +kernel
theorem dX7_readParameters_53 : decode cX7_readParameters 53 = .ok (.getfield 9, 3) := by decide +kernel
theorem dX7_readParameters_56 : decode cX7_readParameters 56 = .ok (.aload_n 0, 1) := by decide +kernel
theorem dX7_readParameters_57 : decode cX7_readParameters 57 = .ok (.getfield 35, 3) := by decide +kernel
theorem dX7_readParameters_60 : decode cX7_readParameters 60 = .ok (.caload, 1) := by decide +kernel
theorem dX7_readParameters_61 : decode cX7_readParameters 61 = .ok (.bipush 48, 2) := by decide +kernel
theorem dX7_readParameters_63 : decode cX7_readParameters 63 = .ok (.isub, 1) := by decide +kernel
theorem dX7_readParameters_64 : decode cX7_readParameters 64 = .ok (.istore_n 2, 1) := by decide +kernel
theorem dX7_readParameters_65 : decode cX7_readParameters 65 = .ok (.aload_n 0, 1) := by decide +kernel
theorem dX7_readParameters_66 : decode cX7_readParameters 66 = .ok (.dup, 1) := by decide +kernel
theorem dX7_readParameters_67 : decode cX7_readParameters 67 = .ok (.getfield 35, 3) := by decide +kernel
theorem dX7_readParameters_70 : decode cX7_readParameters 70 = .ok (.iconst 1, 1) := by decide +kernel
theorem dX7_readParameters_71 : decode cX7_readParameters 71 = .ok (.iadd, 1) := by decide +kernel
theorem dX7_readParameters_72 : decode cX7_readParameters 72 = .ok (.putfield 35, 3) := by decide +kernel
theorem dX7_readParameters_75 : decode cX7_readParameters 75 = .ok (.aload_n 1, 1) := by decide +kernel
theorem dX7_readParameters_76 : decode cX7_readParameters 76 = .ok (.getstatic 84, 3) := by decide +kernel
theorem dX7_readParameters_79 : decode cX7_readParameters 79 = .ok (.if_acmp .ne 63, 3) := by decide +kernel
theorem dX7_readParameters_82 : decode cX7_readParameters 82 = .ok (.aload_n 0, 1) := by decide +kernel
theorem dX7_readParameters_83 : decode cX7_readParameters 83 = .ok (.bipush 32, 2) := by decide +kernel
theorem dX7_readParameters_85 : decode cX7_readParameters 85 = .ok (.invokevirtual 46, 3) := by decide +kernel
theorem dX7_readParameters_88 : decode cX7_readParameters 88 = .ok (.ifCond .eq 29, 3) := by decide +kernel
theorem dX7_readParameters_91 : decode cX7_readParameters 91 = .ok (.aload_n 0, 1) := by decide +kernel
theorem dX7_readParameters_92 : decode cX7_readParameters 92 = .ok (.getfield 35, 3) := by decide +kernel
theorem dX7_readParameters_95 : decode cX7_readParameters 95 = .ok (.aload_n 0, 1) := by decide +kernel
theorem dX7_readParameters_96 : decode cX7_readParameters 96 = .ok (.getfield 15, 3) := by decide +kernel
theorem dX7_readParameters_99 : decode cX7_readParameters 99 = .ok (.if_icmp .ge 18, 3) := by decide +kernel
theorem dX7_readParameters_102 : decode cX7_readParameters 102 = .ok (.aload_n 0, 1) := by decide +kernel
theorem dX7_readParameters_103 : decode cX7_readParameters 103 = .ok (.getfield 9, 3) := by decide +kernel
theorem dX7_readParameters_106 : decode cX7_readParameters 106 = .ok (.aload_n 0, 1) := by decide +kernel
theorem dX7_readParameters_107 : decode cX7_readParameters 107 = .ok (.getfield 35, 3) := by decide +kernel
theorem dX7_readParameters_110 : decode cX7_readParameters 110 = .ok (.caload, 1) := by decide +kernel
theorem dX7_readParameters_111 : decode cX7_readParameters 111 = .ok (.invokestatic 87, 3) := by decide +kernel
theorem dX7_readParameters_114 : decode cX7_readParameters 114 = .ok (.ifCond .ne 5, 3) := by decide +kernel
theorem dX7_readParameters_117 : decode cX7_readParameters 117 = .ok (.iconst 0, 1) := by decide +kernel
theorem dX7_readParameters_118 : decode cX7_readParameters 118 = .ok (.ireturn, 1) := by decide +kernel
theorem dX7_readParameters_119 : decode cX7_readParameters 119 = .ok (.aload_n 0, 1) := by decide +kernel
theorem dX7_readParameters_120 : decode cX7_readParameters 120 = .ok (.getfield 9, 3) := by decide +kernel
theorem dX7_readParameters_123 : decode cX7_readParameters 123 = .ok (.aload_n 0, 1) := by decide +kernel
theorem dX7_readParameters_124 : decode cX7_readParameters 124 = .ok (.getfield 35, 3) := by decide +kernel
theorem dX7_readParameters_127 : decode cX7_readParameters 127 = .ok (.caload, 1) := by decide +kernel
theorem dX7_readParameters_128 : decode cX7_readParameters 128 = .ok (.invokestatic 87, 3) := by decide +kernel
theorem dX7_readParameters_131 : decode cX7_readParameters 131 = .ok (.istore_n 3, 1) := by decide +kernel
theorem dX7_readParameters_132 : decode cX7_readParameters 132 = .ok (.aload_n 0, 1) := by decide +kernel
theorem dX7_readParameters_133 : decode cX7_readParameters 133 = .ok (.dup, 1) := by decide +kernel
theorem dX7_readParameters_134 : decode cX7_readParameters 134 = .ok (.getfield 35, 3) := by decide +kernel
theorem dX7_readParameters_137 : decode cX7_readParameters 137 = .ok (.iconst 1, 1) := by decide +kernel
theorem dX7_readParameters_138 : decode cX7_readParameters 138 = .ok (.iadd, 1) := by decide +kernel
theorem dX7_readParameters_139 : decode cX7_readParameters 139 = .ok (.putfield 35, 3) := by decide +kernel
theorem dX7_readParameters_142 : decode cX7_readParameters 142 = .ok (.aload_n 0, 1) := by decide +kernel
theorem dX7_readParameters_143 : decode cX7_readParameters 143 = .ok (.aload_n 1, 1) := by decide +kernel
theorem dX7_readParameters_144 : decode cX7_readParameters 144 = .ok (.iload_n 2, 1) := by decide +kernel
theorem dX7_readParameters_145 : decode cX7_readParameters 145 = .ok (.iload_n 3, 1) := by decide +kernel
theorem dX7_readParameters_146 : decode cX7_readParameters 146 = .ok (.invokevirtual 91, 3) := by decide +kernel
theorem dX7_readParameters_149 : decode cX7_readParameters 149 = .ok (.iconst 1, 1) := by decide +kernel
theorem dX7_readParameters_150 : decode cX7_readParameters 150 = .ok (.ireturn, 1) := by decide +kernel
theorem dX7_readCharacter_0 : decode cX7_readCharacter 0 = .ok (.aload_n 0, 1) := by decide +kernel
theorem dX7_readCharacter_1 : decode cX7_readCharacter 1 = .ok (.getfield 35, 3) := by decide +kernel
theorem dX7_readCharacter_4 : decode cX7_readCharacter 4 = .ok (.aload_n 0, 1) := by decide +kernel
theorem dX7_readCharacter_5 : decode cX7_readCharacter 5 = .ok (.getfield 15, 3) := by decide +kernel
theorem dX7_readCharacter_8 : decode cX7_readCharacter 8 = .ok (.if_icmp .ge 16, 3) := by decide +kernel
theorem dX7_readCharacter_11 : decode cX7_readCharacter 11 = .ok (.aload_n 0, 1) := by decide +kernel
theorem dX7_readCharacter_12 : decode cX7_readCharacter 12 = .ok (.getfield 9, 3) := by decide +kernel
theorem dX7_readCharacter_15 : decode cX7_readCharacter 15 = .ok (.aload_n 0, 1) := by decide +kernel
theorem dX7_readCharacter_16 : decode cX7_readCharacter 16 = .ok (.getfield 35, 3) := by decide +kernel
theorem dX7_readCharacter_19 : decode cX7_readCharacter 19 = .ok (.caload, 1) := by decide +kernel
theorem dX7_readCharacter_20 : decode cX7_readCharacter 20 = .ok (.iload_n 1, 1) := by decide +kernel
theorem dX7_readCharacter_21 : decode cX7_readCharacter 21 = .ok (.if_icmp .eq 5, 3) := by decide +kernel
theorem dX7_readCharacter_24 : decode cX7_readCharacter 24 = .ok (.iconst 0, 1) := by decide +kernel
theorem dX7_readCharacter_25 : decode cX7_readCharacter 25 = .ok (.ireturn, 1) := by decide +kernel
theorem dX7_readCharacter_26 : decode cX7_readCharacter 26 = .ok (.aload_n 0, 1) := by decide +kernel
theorem dX7_readCharacter_27 : decode cX7_readCharacter 27 = .ok (.dup, 1) := by decide +kernel
theorem dX7_readCharacter_28 : decode cX7_readCharacter 28 = .ok (.getfield 35, 3) := by decide +kernel
theorem dX7_readCharacter_31 : decode cX7_readCharacter 31 = .ok (.iconst 1, 1) := by decide +kernel
theorem dX7_readCharacter_32 : decode cX7_readCharacter 32 = .ok (.iadd, 1) := by decide +kernel
theorem dX7_readCharacter_33 : decode cX7_readCharacter 33 = .ok (.putfield 35, 3) := by decide +kernel
theorem dX7_readCharacter_36 : decode cX7_readCharacter 36 = .ok (.iconst 1, 1) := by decide +kernel
theorem dX7_readCharacter_37 : decode cX7_readCharacter 37 = .ok (.ireturn, 1) := by decide +kernel
theorem dX7_addStep_0 : decode cX7_addStep 0 = .ok (.aload_n 0, 1) := by decide +kernel
theorem dX7_addStep_1 : decode cX7_addStep 1 = .ok (.getfield 32, 3) := by decide +kernel
theorem dX7_addStep_4 : decode cX7_addStep 4 = .ok (.bipush 12, 2) := by decide +kernel
theorem dX7_addStep_6 : decode cX7_addStep 6 = .ok (.if_icmp .ge 43, 3) := by decide +kernel
theorem dX7_addStep_9 : decode cX7_addStep 9 = .ok (.aload_n 0, 1) := by decide +kernel
theorem dX7_addStep_10 : decode cX7_addStep 10 = .ok (.getfield 21, 3) := by decide +kernel
theorem dX7_addStep_13 : decode cX7_addStep 13 = .ok (.aload_n 0, 1) := by decide +kernel
theorem dX7_addStep_14 : decode cX7_addStep 14 = .ok (.getfield 32, 3) := by decide +kernel
theorem dX7_addStep_17 : decode cX7_addStep 17 = .ok (.aload_n 1, 1) := by decide +kernel
theorem dX7_addStep_18 : decode cX7_addStep 18 = .ok (.aastore, 1) := by decide +kernel
theorem dX7_addStep_19 : decode cX7_addStep 19 = .ok (.aload_n 0, 1) := by decide +kernel
theorem dX7_addStep_20 : decode cX7_addStep 20 = .ok (.getfield 25, 3) := by decide +kernel
theorem dX7_addStep_23 : decode cX7_addStep 23 = .ok (.aload_n 0, 1) := by decide +kernel
theorem dX7_addStep_24 : decode cX7_addStep 24 = .ok (.getfield 32, 3) := by decide +kernel
theorem dX7_addStep_27 : decode cX7_addStep 27 = .ok (.iload_n 2, 1) := by decide +kernel
theorem dX7_addStep_28 : decode cX7_addStep 28 = .ok (.iastore, 1) := by decide +kernel
theorem dX7_addStep_29 : decode cX7_addStep 29 = .ok (.aload_n 0, 1) := by decide +kernel
theorem dX7_addStep_30 : decode cX7_addStep 30 = .ok (.getfield 29, 3) := by decide +kernel
theorem dX7_addStep_33 : decode cX7_addStep 33 = .ok (.aload_n 0, 1) := by decide +kernel
theorem dX7_addStep_34 : decode cX7_addStep 34 = .ok (.getfield 32, 3) := by decide +kernel
theorem dX7_addStep_37 : decode cX7_addStep 37 = .ok (.iload_n 3, 1) := by decide +kernel
theorem dX7_addStep_38 : decode cX7_addStep 38 = .ok (.iastore, 1) := by decide +kernel
theorem dX7_addStep_39 : decode cX7_addStep 39 = .ok (.aload_n 0, 1) := by decide +kernel
theorem dX7_addStep_40 : decode cX7_addStep 40 = .ok (.dup, 1) := by decide +kernel
theorem dX7_addStep_41 : decode cX7_addStep 41 = .ok (.getfield 32, 3) := by decide +kernel
theorem dX7_addStep_44 : decode cX7_addStep 44 = .ok (.iconst 1, 1) := by decide +kernel
theorem dX7_addStep_45 : decode cX7_addStep 45 = .ok (.iadd, 1) := by decide +kernel
theorem dX7_addStep_46 : decode cX7_addStep 46 = .ok (.putfield 32, 3) := by decide +kernel
theorem dX7_addStep_49 : decode cX7_addStep 49 = .ok (.return_, 1) := by decide +kernel
