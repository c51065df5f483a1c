theorem dX10_closedThreads_45 : decode cX10_closedThreads 45 = .ok (.iload 5, 2) := by decide +kernel
theorem dX10_closedThreads_47 : decode cX10_closedThreads 47 = .ok (.ishr, 1) := by decide +kernel
theorem dX10_closedThreads_48 : decode cX10_closedThreads 48 = .ok (.iconst 1, 1) := by decide +kernel
theorem dX10_closedThreads_49 : decode cX10_closedThreads 49 = .ok (.iand, 1) := by decide +kernel
theorem dX10_closedThreads_50 : decode cX10_closedThreads 50 = .ok (.ifCond .ne 22, 3) := by decide +kernel
theorem dX10_closedThreads_53 : decode cX10_closedThreads 53 = .ok (.iload_n 2, 1) := by decide +kernel
theorem dX10_closedThreads_54 : decode cX10_closedThreads 54 = .ok (.iconst 1, 1) := by decide +kernel
theorem dX10_closedThreads_55 : decode cX10_closedThreads 55 = .ok (.iload 5, 2) := by decide +kernel
theorem dX10_closedThreads_57 : decode cX10_closedThreads 57 = .ok (.ishl, 1) := by decide +kernel
theorem dX10_closedThreads_58 : decode cX10_closedThreads 58 = .ok (.ior, 1) := by decide +kernel
theorem dX10_closedThreads_59 : decode cX10_closedThreads 59 = .ok (.istore_n 2, 1) := by decide +kernel
theorem dX10_closedThreads_60 : decode cX10_closedThreads 60 = .ok (.aload_n 0, 1) := by decide +kernel
theorem dX10_closedThreads_61 : decode cX10_closedThreads 61 = .ok (.iload_n 1, 1) := by decide +kernel
theorem dX10_closedThreads_62 : decode cX10_closedThreads 62 = .ok (.iload 5, 2) := by decide +kernel
theorem dX10_closedThreads_64 : decode cX10_closedThreads 64 = .ok (.invokevirtual 183, 3) := by decide +kernel
theorem dX10_closedThreads_67 : decode cX10_closedThreads 67 = .ok (.istore 5, 2) := by decide +kernel
theorem dX10_closedThreads_69 : decode cX10_closedThreads 69 = .ok (.goto (-25), 3) := by decide +kernel
theorem dX10_closedThreads_72 : decode cX10_closedThreads 72 = .ok (.iinc 4 1, 3) := by decide +kernel
theorem dX10_closedThreads_75 : decode cX10_closedThreads 75 = .ok (.goto (-58), 3) := by decide +kernel
theorem dX10_closedThreads_78 : decode cX10_closedThreads 78 = .ok (.iload_n 3, 1) := by decide +kernel
theorem dX10_closedThreads_79 : decode cX10_closedThreads 79 = .ok (.ireturn, 1) := by decide +kernel
theorem dX10_crossings_0 : decode cX10_crossings 0 = .ok (.aload_n 0, 1) := by decide +kernel
theorem dX10_crossings_1 : decode cX10_crossings 1 = .ok (.aload_n 0, 1) := by decide +kernel
theorem dX10_crossings_2 : decode cX10_crossings 2 = .ok (.iload_n 1, 1) := by decide +kernel
theorem dX10_crossings_3 : decode cX10_crossings 3 = .ok (.invokevirtual 131, 3) := by decide +kernel
theorem dX10_crossings_6 : decode cX10_crossings 6 = .ok (.ifCond .ne 7, 3) := by decide +kernel
theorem dX10_crossings_9 : decode cX10_crossings 9 = .ok (.iconst 1, 1) := by decide +kernel
theorem dX10_crossings_10 : decode cX10_crossings 10 = .ok (.goto 22, 3) := by decide +kernel
theorem dX10_crossings_13 : decode cX10_crossings 13 = .ok (.iload_n 2, 1) := by decide +kernel
theorem dX10_crossings_14 : decode cX10_crossings 14 = .ok (.invokestatic 180, 3) := by decide +kernel
theorem dX10_crossings_17 : decode cX10_crossings 17 = .ok (.ifCond .eq 14, 3) := by decide +kernel
theorem dX10_crossings_20 : decode cX10_crossings 20 = .ok (.iload_n 3, 1) := by decide +kernel
theorem dX10_crossings_21 : decode cX10_crossings 21 = .ok (.invokestatic 180, 3) := by decide +kernel
theorem dX10_crossings_24 : decode cX10_crossings 24 = .ok (.ifCond .eq 7, 3) := by decide +kernel
theorem dX10_crossings_27 : decode cX10_crossings 27 = .ok (.iconst 0, 1) := by decide +kernel
theorem dX10_crossings_28 : decode cX10_crossings 28 = .ok (.goto 4, 3) := by decide +kernel
theorem dX10_crossings_31 : decode cX10_crossings 31 = .ok (.iconst 2, 1) := by decide +kernel
theorem dX10_crossings_32 : decode cX10_crossings 32 = .ok (.invokevirtual 135, 3) := by decide +kernel
theorem dX10_crossings_35 : decode cX10_crossings 35 = .ok (.ifCond .eq 5, 3) := by decide +kernel
theorem dX10_crossings_38 : decode cX10_crossings 38 = .ok (.iconst 0, 1) := by decide +kernel
theorem dX10_crossings_39 : decode cX10_crossings 39 = .ok (.ireturn, 1) := by decide +kernel
theorem dX10_crossings_40 : decode cX10_crossings 40 = .ok (.iload_n 2, 1) := by decide +kernel
theorem dX10_crossings_41 : decode cX10_crossings 41 = .ok (.istore 4, 2) := by decide +kernel
theorem dX10_crossings_43 : decode cX10_crossings 43 = .ok (.iload_n 3, 1) := by decide +kernel
theorem dX10_crossings_44 : decode cX10_crossings 44 = .ok (.istore 5, 2) := by decide +kernel
theorem dX10_crossings_46 : decode cX10_crossings 46 = .ok (.iconst 0, 1) := by decide +kernel
theorem dX10_crossings_47 : decode cX10_crossings 47 = .ok (.istore 6, 2) := by decide +kernel
theorem dX10_crossings_49 : decode cX10_crossings 49 = .ok (.iconst 0, 1) := by decide +kernel
theorem dX10_crossings_50 : decode cX10_crossings 50 = .ok (.istore 7, 2) := by decide +kernel
theorem dX10_crossings_52 : decode cX10_crossings 52 = .ok (.iload 7, 2) := by decide +kernel
theorem dX10_crossings_54 : decode cX10_crossings 54 = .ok (.aload_n 0, 1) := by decide +kernel
theorem dX10_crossings_55 : decode cX10_crossings 55 = .ok (.iload_n 1, 1) := by decide +kernel
theorem dX10_crossings_56 : decode cX10_crossings 56 = .ok (.iconst 0, 1) := by decide +kernel
theorem dX10_crossings_57 : decode cX10_crossings 57 = .ok (.invokevirtual 149, 3) := by decide +kernel
theorem dX10_crossings_60 : decode cX10_crossings 60 = .ok (.if_icmp .ge 139, 3) := by decide +kernel
theorem dX10_crossings_63 : decode cX10_crossings 63 = .ok (.aload_n 0, 1) := by decide +kernel
theorem dX10_crossings_64 : decode cX10_crossings 64 = .ok (.iload_n 1, 1) := by decide +kernel
theorem dX10_crossings_65 : decode cX10_crossings 65 = .ok (.invokestatic 138, 3) := by decide +kernel
theorem dX10_crossings_68 : decode cX10_crossings 68 = .ok (.iload 7, 2) := by decide +kernel
theorem dX10_crossings_70 : decode cX10_crossings 70 = .ok (.invokevirtual 86, 3) := by decide +kernel
theorem dX10_crossings_73 : decode cX10_crossings 73 = .ok (.istore 8, 2) := by decide +kernel
theorem dX10_crossings_75 : decode cX10_crossings 75 = .ok (.iload 8, 2) := by decide +kernel
theorem dX10_crossings_77 : decode cX10_crossings 77 = .ok (.invokestatic 97, 3) := by decide +kernel
theorem dX10_crossings_80 : decode cX10_crossings 80 = .ok (.istore 9, 2) := by decide +kernel
theorem dX10_crossings_82 : decode cX10_crossings 82 = .ok (.iload 4, 2) := by decide +kernel
theorem dX10_crossings_84 : decode cX10_crossings 84 = .ok (.iload 9, 2) := by decide +kernel
theorem dX10_crossings_86 : decode cX10_crossings 86 = .ok (.if_icmp .ne 12, 3) := by decide +kernel
theorem dX10_crossings_89 : decode cX10_crossings 89 = .ok (.iload 5, 2) := by decide +kernel
theorem dX10_crossings_91 : decode cX10_crossings 91 = .ok (.iload 9, 2) := by decide +kernel
theorem dX10_crossings_93 : decode cX10_crossings 93 = .ok (.iconst 1, 1) := by decide +kernel
theorem dX10_crossings_94 : decode cX10_crossings 94 = .ok (.iadd, 1) := by decide +kernel
theorem dX10_crossings_95 : decode cX10_crossings 95 = .ok (.if_icmp .eq 19, 3) := by decide +kernel
theorem dX10_crossings_98 : decode cX10_crossings 98 = .ok (.iload 4, 2) := by decide +kernel
theorem dX10_crossings_100 : decode cX10_crossings 100 = .ok (.iload 9, 2) := by decide +kernel
theorem dX10_crossings_102 : decode cX10_crossings 102 = .ok (.iconst 1, 1) := by decide +kernel
theorem dX10_crossings_103 : decode cX10_crossings 103 = .ok (.iadd, 1) := by decide +kernel
theorem dX10_crossings_104 : decode cX10_crossings 104 = .ok (.if_icmp .ne 25, 3) := by decide +kernel
theorem dX10_crossings_107 : decode cX10_crossings 107 = .ok (.iload 5, 2) := by decide +kernel
theorem dX10_crossings_109 : decode cX10_crossings 109 = .ok (.iload 9, 2) := by decide +kernel
theorem dX10_crossings_111 : decode cX10_crossings 111 = .ok (.if_icmp .ne 18, 3) := by decide +kernel
theorem dX10_crossings_114 : decode cX10_crossings 114 = .ok (.iload 6, 2) := by decide +kernel
theorem dX10_crossings_116 : decode cX10_crossings 116 = .ok (.iload 8, 2) := by decide +kernel
theorem dX10_crossings_118 : decode cX10_crossings 118 = .ok (.ifCond .le 7, 3) := by decide +kernel
theorem dX10_crossings_121 : decode cX10_crossings 121 = .ok (.iconst 1, 1) := by decide +kernel
theorem dX10_crossings_122 : decode cX10_crossings 122 = .ok (.goto 4, 3) := by decide +kernel
theorem dX10_crossings_125 : decode cX10_crossings 125 = .ok (.iconst (-1), 1) := by decide +kernel
theorem dX10_crossings_126 : decode cX10_crossings 126 = .ok (.iadd, 1) := by decide +kernel
theorem dX10_crossings_127 : decode cX10_crossings 127 = .ok (.istore 6, 2) := by decide +kernel
theorem dX10_crossings_129 : decode cX10_crossings 129 = .ok (.iload 4, 2) := by decide +kernel
theorem dX10_crossings_131 : decode cX10_crossings 131 = .ok (.iload 9, 2) := by decide +kernel
theorem dX10_crossings_133 : decode cX10_crossings 133 = .ok (.if_icmp .ne 10, 3) := by decide +kernel
theorem dX10_crossings_136 : decode cX10_crossings 136 = .ok (.iload 9, 2) := by decide +kernel
theorem dX10_crossings_138 : decode cX10_crossings 138 = .ok (.iconst 1, 1) := by decide +kernel
theorem dX10_crossings_139 : decode cX10_crossings 139 = .ok (.iadd, 1) := by decide +kernel
theorem dX10_crossings_140 : decode cX10_crossings 140 = .ok (.goto 19, 3) := by decide +kernel
theorem dX10_crossings_143 : decode cX10_crossings 143 = .ok (.iload 4, 2) := by decide +kernel
theorem dX10_crossings_145 : decode cX10_crossings 145 = .ok (.iload 9, 2) := by decide +kernel
theorem dX10_crossings_147 : decode cX10_crossings 147 = .ok (.iconst 1, 1) := by decide +kernel
theorem dX10_crossings_148 : decode cX10_crossings 148 = .ok (.iadd, 1) := by decide +kernel
theorem dX10_crossings_149 : decode cX10_crossings 149 = .ok (.if_icmp .ne 8, 3) := by decide +kernel
theorem dX10_crossings_152 : decode cX10_crossings 152 = .ok (.iload 9, 2) := by decide +kernel
theorem dX10_crossings_154 : decode cX10_crossings 154 = .ok (.goto 5, 3) := by decide +kernel
theorem dX10_crossings_157 : decode cX10_crossings 157 = .ok (.iload 4, 2) := by decide +kernel
theorem dX10_crossings_159 : decode cX10_crossings 159 = .ok (.istore 4, 2) := by decide +kernel
theorem dX10_crossings_161 : decode cX10_crossings 161 = .ok (.iload 5, 2) := by decide +kernel
theorem dX10_crossings_163 : decode cX10_crossings 163 = .ok (.iload 9, 2) := by decide +kernel
theorem dX10_crossings_165 : decode cX10_crossings 165 = .ok (.if_icmp .ne 10, 3) := by decide +kernel
theorem dX10_crossings_168 : decode cX10_crossings 168 = .ok (.iload 9, 2) := by decide +kernel
theorem dX10_crossings_170 : decode cX10_crossings 170 = .ok (.iconst 1, 1) := by decide +kernel
theorem dX10_crossings_171 : decode cX10_crossings 171 = .ok (.iadd, 1) := by decide +kernel
theorem dX10_crossings_172 : decode cX10_crossings 172 = .ok (.goto 19, 3) := by decide +kernel
theorem dX10_crossings_175 : decode cX10_crossings 175 = .ok (.iload 5, 2) := by decide +kernel
theorem dX10_crossings_177 : decode cX10_crossings 177 = .ok (.iload 9, 2) := by decide +kernel
theorem dX10_crossings_179 : decode cX10_crossings 179 = .ok (.iconst 1, 1) := by decide +kernel
theorem dX10_crossings_180 : decode cX10_crossings 180 = .ok (.iadd, 1) := by decide +kernel
theorem dX10_crossings_181 : decode cX10_crossings 181 = .ok (.if_icmp .ne 8, 3) := by decide +kernel
theorem dX10_crossings_184 : decode cX10_crossings 184 = .ok (.iload 9, 2) := by decide +kernel
theorem dX10_crossings_186 : decode cX10_crossings 186 = .ok (.goto 5, 3) := by decide +kernel
theorem dX10_crossings_189 : decode cX10_crossings 189 = .ok (.iload 5, 2) := by decide +kernel
theorem dX10_crossings_191 : decode cX10_crossings 191 = .ok (.istore 5, 2) := by decide +kernel
theorem dX10_crossings_193 : decode cX10_crossings 193 = .ok (.iinc 7 1, 3) := by decide +kernel
theorem dX10_crossings_196 : decode cX10_crossings 196 = .ok (.goto (-144), 3) := by decide +kernel
theorem dX10_crossings_199 : decode cX10_crossings 199 = .ok (.iload 6, 2) := by decide +kernel
theorem dX10_crossings_201 : decode cX10_crossings 201 = .ok (.ireturn, 1) := by decide +kernel
theorem dX10_coordinate_0 : decode cX10_coordinate 0 = .ok (.aload_n 0, 1) := by decide +kernel
theorem dX10_coordinate_1 : decode cX10_coordinate 1 = .ok (.aload_n 0, 1) := by decide +kernel
theorem dX10_coordinate_2 : decode cX10_coordinate 2 = .ok (.iload_n 1, 1) := by decide +kernel
theorem dX10_coordinate_3 : decode cX10_coordinate 3 = .ok (.invokevirtual 131, 3) := by decide +kernel
theorem dX10_coordinate_6 : decode cX10_coordinate 6 = .ok (.ifCond .ne 7, 3) := by decide +kernel
theorem dX10_coordinate_9 : decode cX10_coordinate 9 = .ok (.iconst 1, 1) := by decide +kernel
theorem dX10_coordinate_10 : decode cX10_coordinate 10 = .ok (.goto 18, 3) := by decide +kernel
theorem dX10_coordinate_13 : decode cX10_coordinate 13 = .ok (.iload_n 2, 1) := by decide +kernel
theorem dX10_coordinate_14 : decode cX10_coordinate 14 = .ok (.iconst 0, 1) := by decide +kernel
theorem dX10_coordinate_15 : decode cX10_coordinate 15 = .ok (.bipush 9, 2) := by decide +kernel
theorem dX10_coordinate_17 : decode cX10_coordinate 17 = .ok (.invokestatic 75, 3) := by decide +kernel
theorem dX10_coordinate_20 : decode cX10_coordinate 20 = .ok (.ifCond .eq 7, 3) := by decide +kernel
theorem dX10_coordinate_23 : decode cX10_coordinate 23 = .ok (.iconst 0, 1) := by decide +kernel
theorem dX10_coordinate_24 : decode cX10_coordinate 24 = .ok (.goto 4, 3) := by decide +kernel
theorem dX10_coordinate_27 : decode cX10_coordinate 27 = .ok (.iconst 2, 1) := by decide +kernel
theorem dX10_coordinate_28 : decode cX10_coordinate 28 = .ok (.invokevirtual 135, 3) := by decide +kernel
theorem dX10_coordinate_31 : decode cX10_coordinate 31 = .ok (.ifCond .eq 5, 3) := by decide +kernel
theorem dX10_coordinate_34 : decode cX10_coordinate 34 = .ok (.lconst 0, 1) := by decide +kernel
theorem dX10_coordinate_35 : decode cX10_coordinate 35 = .ok (.lreturn, 1) := by decide +kernel
theorem dX10_coordinate_36 : decode cX10_coordinate 36 = .ok (.aload_n 0, 1) := by decide +kernel
theorem dX10_coordinate_37 : decode cX10_coordinate 37 = .ok (.iload_n 1, 1) := by decide +kernel
theorem dX10_coordinate_38 : decode cX10_coordinate 38 = .ok (.invokestatic 138, 3) := by decide +kernel
theorem dX10_coordinate_41 : decode cX10_coordinate 41 = .ok (.invokevirtual 128, 3) := by decide +kernel
theorem dX10_coordinate_44 : decode cX10_coordinate 44 = .ok (.aload_n 0, 1) := by decide +kernel
theorem dX10_coordinate_45 : decode cX10_coordinate 45 = .ok (.invokevirtual 125, 3) := by decide +kernel
theorem dX10_coordinate_48 : decode cX10_coordinate 48 = .ok (.aload_n 0, 1) := by decide +kernel
theorem dX10_coordinate_49 : decode cX10_coordinate 49 = .ok (.getfield 39, 3) := by decide +kernel
theorem dX10_coordinate_52 : decode cX10_coordinate 52 = .ok (.iload_n 2, 1) := by decide +kernel
theorem dX10_coordinate_53 : decode cX10_coordinate 53 = .ok (.laload, 1) := by decide +kernel
theorem dX10_coordinate_54 : decode cX10_coordinate 54 = .ok (.lreturn, 1) := by decide +kernel
theorem dX10_isTrivial_0 : decode cX10_isTrivial 0 = .ok (.aload_n 0, 1) := by decide +kernel
theorem dX10_isTrivial_1 : decode cX10_isTrivial 1 = .ok (.iload_n 1, 1) := by decide +kernel
theorem dX10_isTrivial_2 : decode cX10_isTrivial 2 = .ok (.invokevirtual 174, 3) := by decide +kernel
theorem dX10_isTrivial_5 : decode cX10_isTrivial 5 = .ok (.ifCond .eq 14, 3) := by decide +kernel
theorem dX10_isTrivial_8 : decode cX10_isTrivial 8 = .ok (.aload_n 0, 1) := by decide +kernel
theorem dX10_isTrivial_9 : decode cX10_isTrivial 9 = .ok (.getfield 79, 3) := by decide +kernel
theorem dX10_isTrivial_12 : decode cX10_isTrivial 12 = .ok (.ifCond .ne 7, 3) := by decide +kernel
theorem dX10_isTrivial_15 : decode cX10_isTrivial 15 = .ok (.iconst 1, 1) := by decide +kernel
theorem dX10_isTrivial_16 : decode cX10_isTrivial 16 = .ok (.goto 4, 3) := by decide +kernel
theorem dX10_isTrivial_19 : decode cX10_isTrivial 19 = .ok (.iconst 0, 1) := by decide +kernel
theorem dX10_isTrivial_20 : decode cX10_isTrivial 20 = .ok (.ireturn, 1) := by decide +kernel
theorem dX10_isDivided_0 : decode cX10_isDivided 0 = .ok (.aload_n 0, 1) := by decide +kernel
theorem dX10_isDivided_1 : decode cX10_isDivided 1 = .ok (.aload_n 0, 1) := by decide +kernel
theorem dX10_isDivided_2 : decode cX10_isDivided 2 = .ok (.iload_n 1, 1) := by decide +kernel
theorem dX10_isDivided_3 : decode cX10_isDivided 3 = .ok (.invokevirtual 131, 3) := by decide +kernel
theorem dX10_isDivided_6 : decode cX10_isDivided 6 = .ok (.ifCond .eq 15, 3) := by decide +kernel
theorem dX10_isDivided_9 : decode cX10_isDivided 9 = .ok (.aload_n 0, 1) := by decide +kernel
theorem dX10_isDivided_10 : decode cX10_isDivided 10 = .ok (.iload_n 2, 1) := by decide +kernel
theorem dX10_isDivided_11 : decode cX10_isDivided 11 = .ok (.invokevirtual 131, 3) := by decide +kernel
theorem dX10_isDivided_14 : decode cX10_isDivided 14 = .ok (.ifCond .eq 7, 3) := by decide +kernel
theorem dX10_isDivided_17 : decode cX10_isDivided 17 = .ok (.iconst 0, 1) := by decide +kernel
theorem dX10_isDivided_18 : decode cX10_isDivided 18 = .ok (.goto 4, 3) := by decide +kernel
theorem dX10_isDivided_21 : decode cX10_isDivided 21 = .ok (.iconst 1, 1) := by decide +kernel
theorem dX10_isDivided_22 : decode cX10_isDivided 22 = .ok (.invokevirtual 135, 3) := by decide +kernel
theorem dX10_isDivided_25 : decode cX10_isDivided 25 = .ok (.ifCond .eq 5, 3) := by decide +kernel
theorem dX10_isDivided_28 : decode cX10_isDivided 28 = .ok (.iconst 0, 1) := by decide +kernel
theorem dX10_isDivided_29 : decode cX10_isDivided 29 = .ok (.ireturn, 1) := by decide +kernel
theorem dX10_isDivided_30 : decode cX10_isDivided 30 = .ok (.aload_n 0, 1) := by decide +kernel
theorem dX10_isDivided_31 : decode cX10_isDivided 31 = .ok (.iload_n 1, 1) := by decide +kernel
theorem dX10_isDivided_32 : decode cX10_isDivided 32 = .ok (.invokestatic 138, 3) := by decide +kernel
theorem dX10_isDivided_35 : decode cX10_isDivided 35 = .ok (.iload_n 2, 1) := by decide +kernel
theorem dX10_isDivided_36 : decode cX10_isDivided 36 = .ok (.invokestatic 138, 3) := by decide +kernel
theorem dX10_isDivided_39 : decode cX10_isDivided 39 = .ok (.invokevirtual 186, 3) := by decide +kernel
theorem dX10_isDivided_42 : decode cX10_isDivided 42 = .ok (.aload_n 0, 1) := by decide +kernel
theorem dX10_isDivided_43 : decode cX10_isDivided 43 = .ok (.aload_n 0, 1) := by decide +kernel
theorem dX10_isDivided_44 : decode cX10_isDivided 44 = .ok (.invokevirtual 168, 3) := by decide +kernel
theorem dX10_isDivided_47 : decode cX10_isDivided 47 = .ok (.ifCond .eq 7, 3) := by decide +kernel
theorem dX10_isDivided_50 : decode cX10_isDivided 50 = .ok (.iconst 0, 1) := by decide +kernel
theorem dX10_isDivided_51 : decode cX10_isDivided 51 = .ok (.goto 4, 3) := by decide +kernel
theorem dX10_isDivided_54 : decode cX10_isDivided 54 = .ok (.iconst 2, 1) := by decide +kernel
theorem dX10_isDivided_55 : decode cX10_isDivided 55 = .ok (.invokevirtual 135, 3) := by decide +kernel
theorem dX10_isDivided_58 : decode cX10_isDivided 58 = .ok (.ifCond .ne 7, 3) := by decide +kernel
theorem dX10_isDivided_61 : decode cX10_isDivided 61 = .ok (.iconst 1, 1) := by decide +kernel
theorem dX10_isDivided_62 : decode cX10_isDivided 62 = .ok (.goto 4, 3) := by decide +kernel
theorem dX10_isDivided_65 : decode cX10_isDivided 65 = .ok (.iconst 0, 1) := by decide +kernel
theorem dX10_isDivided_66 : decode cX10_isDivided 66 = .ok (.ireturn, 1) := by decide +kernel
theorem dX10_areEqual_0 : decode cX10_areEqual 0 = .ok (.aload_n 0, 1) := by decide +kernel
theorem dX10_areEqual_1 : decode cX10_areEqual 1 = .ok (.iload_n 1, 1) := by decide +kernel
theorem dX10_areEqual_2 : decode cX10_areEqual 2 = .ok (.iload_n 2, 1) := by decide +kernel
theorem dX10_areEqual_3 : decode cX10_areEqual 3 = .ok (.invokevirtual 190, 3) := by decide +kernel
theorem dX10_areEqual_6 : decode cX10_areEqual 6 = .ok (.ifCond .eq 14, 3) := by decide +kernel
theorem dX10_areEqual_9 : decode cX10_areEqual 9 = .ok (.aload_n 0, 1) := by decide +kernel
theorem dX10_areEqual_10 : decode cX10_areEqual 10 = .ok (.getfield 79, 3) := by decide +kernel
theorem dX10_areEqual_13 : decode cX10_areEqual 13 = .ok (.ifCond .ne 7, 3) := by decide +kernel
theorem dX10_areEqual_16 : decode cX10_areEqual 16 = .ok (.iconst 1, 1) := by decide +kernel
theorem dX10_areEqual_17 : decode cX10_areEqual 17 = .ok (.goto 4, 3) := by decide +kernel
theorem dX10_areEqual_20 : decode cX10_areEqual 20 = .ok (.iconst 0, 1) := by decide +kernel
theorem dX10_areEqual_21 : decode cX10_areEqual 21 = .ok (.ireturn, 1) := by decide +kernel
theorem dX10_areEqualByCoordinates_0 : decode cX10_areEqualByCoordinates 0 = .ok (.aload_n 0, 1) := by decide +kernel
theorem dX10_areEqualByCoordinates_1 : decode cX10_areEqualByCoordinates 1 = .ok (.aload_n 0, 1) := by decide +kernel
theorem dX10_areEqualByCoordinates_2 : decode cX10_areEqualByCoordinates 2 = .ok (.iload_n 1, 1) := by decide +kernel
theorem dX10_areEqualByCoordinates_3 : decode cX10_areEqualByCoordinates 3 = .ok (.invokevirtual 131, 3) := by decide +kernel
theorem dX10_areEqualByCoordinates_6 : decode cX10_areEqualByCoordinates 6 = .ok (.ifCond .eq 15, 3) := by decide +kernel
theorem dX10_areEqualByCoordinates_9 : decode cX10_areEqualByCoordinates 9 = .ok (.aload_n 0, 1) := by decide +kernel
theorem dX10_areEqualByCoordinates_10 : decode cX10_areEqualByCoordinates 10 = .ok (.iload_n 2, 1) := by decide +kernel
theorem dX10_areEqualByCoordinates_11 : decode cX10_areEqualByCoordinates 11 = .ok (.invokevirtual 131, 3) := by decide +kernel
theorem dX10_areEqualByCoordinates_14 : decode cX10_areEqualByCoordinates 14 = .ok (.ifCond .eq 7, 3) := by decide +kernel
theorem dX10_areEqualByCoordinates_17 : decode cX10_areEqualByCoordinates 17 = .ok (.iconst 0, 1) := by decide +kernel
theorem dX10_areEqualByCoordinates_18 : decode cX10_areEqualByCoordinates 18 = .ok (.goto 4, 3) := by decide +kernel
theorem dX10_areEqualByCoordinates_21 : decode cX10_areEqualByCoordinates 21 = .ok (.iconst 1, 1) := by decide +kernel
theorem dX10_areEqualByCoordinates_22 : decode cX10_areEqualByCoordinates 22 = .ok (.invokevirtual 135, 3) := by decide +kernel
theorem dX10_areEqualByCoordinates_25 : decode cX10_areEqualByCoordinates 25 = .ok (.ifCond .ne 22, 3) := by decide +kernel
theorem dX10_areEqualByCoordinates_28 : decode cX10_areEqualByCoordinates 28 = .ok (.aload_n 0, 1) := by decide +kernel
theorem dX10_areEqualByCoordinates_29 : decode cX10_areEqualByCoordinates 29 = .ok (.iload_n 1, 1) := by decide +kernel
theorem dX10_areEqualByCoordinates_30 : decode cX10_areEqualByCoordinates 30 = .ok (.invokestatic 138, 3) := by decide +kernel
theorem dX10_areEqualByCoordinates_33 : decode cX10_areEqualByCoordinates 33 = .ok (.iload_n 2, 1) := by decide +kernel
theorem dX10_areEqualByCoordinates_34 : decode cX10_areEqualByCoordinates 34 = .ok (.invokestatic 138, 3) := by decide +kernel
theorem dX10_areEqualByCoordinates_37 : decode cX10_areEqualByCoordinates 37 = .ok (.invokevirtual 194, 3) := by decide +kernel
theorem dX10_areEqualByCoordinates_40 : decode cX10_areEqualByCoordinates 40 = .ok (.ifCond .eq 7, 3) := by decide +kernel
theorem dX10_areEqualByCoordinates_43 : decode cX10_areEqualByCoordinates 43 = .ok (.iconst 1, 1) := by decide +kernel
theorem dX10_areEqualByCoordinates_44 : decode cX10_areEqualByCoordinates 44 = .ok (.goto 4, 3) := by decide +kernel
theorem dX10_areEqualByCoordinates_47 : decode cX10_areEqualByCoordinates 47 = .ok (.iconst 0, 1) := by decide +kernel
theorem dX10_areEqualByCoordinates_48 : decode cX10_areEqualByCoordinates 48 = .ok (.ireturn, 1) := by decide +kernel
theorem dX10_compare_0 : decode cX10_compare 0 = .ok (.aload_n 0, 1) := by decide +kernel
theorem dX10_compare_1 : decode cX10_compare 1 = .ok (.iload_n 1, 1) := by decide +kernel
theorem dX10_compare_2 : decode cX10_compare 2 = .ok (.iload_n 2, 1) := by decide +kernel
theorem dX10_compare_3 : decode cX10_compare 3 = .ok (.invokevirtual 190, 3) := by decide +kernel
theorem dX10_compare_6 : decode cX10_compare 6 = .ok (.ifCond .eq 10, 3) := by decide +kernel
theorem dX10_compare_9 : decode cX10_compare 9 = .ok (.aload_n 0, 1) := by decide +kernel
theorem dX10_compare_10 : decode cX10_compare 10 = .ok (.invokevirtual 197, 3) := by decide +kernel
theorem dX10_compare_13 : decode cX10_compare 13 = .ok (.goto 4, 3) := by decide +kernel
theorem dX10_compare_16 : decode cX10_compare 16 = .ok (.iconst 0, 1) := by decide +kernel
theorem dX10_compare_17 : decode cX10_compare 17 = .ok (.ireturn, 1) := by decide +kernel
theorem dX10_order_0 : decode cX10_order 0 = .ok (.aload_n 0, 1) := by decide +kernel
theorem dX10_order_1 : decode cX10_order 1 = .ok (.iload_n 1, 1) := by decide +kernel
theorem dX10_order_2 : decode cX10_order 2 = .ok (.invokestatic 138, 3) := by decide +kernel
theorem dX10_order_5 : decode cX10_order 5 = .ok (.iload_n 2, 1) := by decide +kernel
theorem dX10_order_6 : decode cX10_order 6 = .ok (.invokestatic 138, 3) := by decide +kernel
theorem dX10_order_9 : decode cX10_order 9 = .ok (.invokevirtual 186, 3) := by decide +kernel
theorem dX10_order_12 : decode cX10_order 12 = .ok (.aload_n 0, 1) := by decide +kernel
theorem dX10_order_13 : decode cX10_order 13 = .ok (.invokevirtual 201, 3) := by decide +kernel
theorem dX10_order_16 : decode cX10_order 16 = .ok (.ireturn, 1) := by decide +kernel
theorem dX10_compareByCoordinates_0 : decode cX10_compareByCoordinates 0 = .ok (.aload_n 0, 1) := by decide +kernel
theorem dX10_compareByCoordinates_1 : decode cX10_compareByCoordinates 1 = .ok (.aload_n 0, 1) := by decide +kernel
theorem dX10_compareByCoordinates_2 : decode cX10_compareByCoordinates 2 = .ok (.iload_n 1, 1) := by decide +kernel
theorem dX10_compareByCoordinates_3 : decode cX10_compareByCoordinates 3 = .ok (.invokevirtual 131, 3) := by decide +kernel
theorem dX10_compareByCoordinates_6 : decode cX10_compareByCoordinates 6 = .ok (.ifCond .eq 15, 3) := by decide +kernel
theorem dX10_compareByCoordinates_9 : decode cX10_compareByCoordinates 9 = .ok (.aload_n 0, 1) := by decide +kernel
theorem dX10_compareByCoordinates_10 : decode cX10_compareByCoordinates 10 = .ok (.iload_n 2, 1) := by decide +kernel
theorem dX10_compareByCoordinates_11 : decode cX10_compareByCoordinates 11 = .ok (.invokevirtual 131, 3) := by decide +kernel
theorem dX10_compareByCoordinates_14 : decode cX10_compareByCoordinates 14 = .ok (.ifCond .eq 7, 3) := by decide +kernel
theorem dX10_compareByCoordinates_17 : decode cX10_compareByCoordinates 17 = .ok (.iconst 0, 1) := by decide +kernel
theorem dX10_compareByCoordinates_18 : decode cX10_compareByCoordinates 18 = .ok (.goto 4, 3) := by decide +kernel
theorem dX10_compareByCoordinates_21 : decode cX10_compareByCoordinates 21 = .ok (.iconst 1, 1) := by decide +kernel
theorem dX10_compareByCoordinates_22 : decode cX10_compareByCoordinates 22 = .ok (.invokevirtual 135, 3) := by decide +kernel
theorem dX10_compareByCoordinates_25 : decode cX10_compareByCoordinates 25 = .ok (.ifCond .eq 7, 3) := by decide +kernel
theorem dX10_compareByCoordinates_28 : decode cX10_compareByCoordinates 28 = .ok (.iconst 0, 1) := by decide +kernel
theorem dX10_compareByCoordinates_29 : decode cX10_compareByCoordinates 29 = .ok (.goto 9, 3) := by decide +kernel
theorem dX10_compareByCoordinates_32 : decode cX10_compareByCoordinates 32 = .ok (.aload_n 0, 1) := by decide +kernel
theorem dX10_compareByCoordinates_33 : decode cX10_compareByCoordinates 33 = .ok (.iload_n 1, 1) := by decide +kernel
theorem dX10_compareByCoordinates_34 : decode cX10_compareByCoordinates 34 = .ok (.iload_n 2, 1) := by decide +kernel
theorem dX10_compareByCoordinates_35 : decode cX10_compareByCoordinates 35 = .ok (.invokevirtual 204, 3) := by decide +kernel
theorem dX10_compareByCoordinates_38 : decode cX10_compareByCoordinates 38 = .ok (.ireturn, 1) := by decide +kernel
theorem dX10_caseByBraid_0 : decode cX10_caseByBraid 0 = .ok (.iconst 0, 1) := by decide +kernel
theorem dX10_caseByBraid_1 : decode cX10_caseByBraid 1 = .ok (.istore_n 2, 1) := by decide +kernel
theorem dX10_caseByBraid_2 : decode cX10_caseByBraid 2 = .ok (.iload_n 2, 1) := by decide +kernel
theorem dX10_caseByBraid_3 : decode cX10_caseByBraid 3 = .ok (.aload_n 0, 1) := by decide +kernel
theorem dX10_caseByBraid_4 : decode cX10_caseByBraid 4 = .ok (.getfield 7, 3) := by decide +kernel
theorem dX10_caseByBraid_7 : decode cX10_caseByBraid 7 = .ok (.iconst 0, 1) := by decide +kernel
theorem dX10_caseByBraid_8 : decode cX10_caseByBraid 8 = .ok (.iaload, 1) := by decide +kernel
theorem dX10_caseByBraid_9 : decode cX10_caseByBraid 9 = .ok (.if_icmp .ge 89, 3) := by decide +kernel
theorem dX10_caseByBraid_12 : decode cX10_caseByBraid 12 = .ok (.iconst 0, 1) := by decide +kernel
theorem dX10_caseByBraid_13 : decode cX10_caseByBraid 13 = .ok (.istore_n 3, 1) := by decide +kernel
theorem dX10_caseByBraid_14 : decode cX10_caseByBraid 14 = .ok (.iconst 0, 1) := by decide +kernel
theorem dX10_caseByBraid_15 : decode cX10_caseByBraid 15 = .ok (.istore 4, 2) := by decide +kernel
theorem dX10_caseByBraid_17 : decode cX10_caseByBraid 17 = .ok (.iload 4, 2) := by decide +kernel
theorem dX10_caseByBraid_19 : decode cX10_caseByBraid 19 = .ok (.aload_n 0, 1) := by decide +kernel
theorem dX10_caseByBraid_20 : decode cX10_caseByBraid 20 = .ok (.getfield 7, 3) := by decide +kernel
theorem dX10_caseByBraid_23 : decode cX10_caseByBraid 23 = .ok (.iconst 0, 1) := by decide +kernel
theorem dX10_caseByBraid_24 : decode cX10_caseByBraid 24 = .ok (.iaload, 1) := by decide +kernel
theorem dX10_caseByBraid_25 : decode cX10_caseByBraid 25 = .ok (.if_icmp .ge 52, 3) := by decide +kernel
theorem dX10_caseByBraid_28 : decode cX10_caseByBraid 28 = .ok (.iload 4, 2) := by decide +kernel
theorem dX10_caseByBraid_30 : decode cX10_caseByBraid 30 = .ok (.iload_n 2, 1) := by decide +kernel
theorem dX10_caseByBraid_31 : decode cX10_caseByBraid 31 = .ok (.if_icmp .ne 7, 3) := by decide +kernel
theorem dX10_caseByBraid_34 : decode cX10_caseByBraid 34 = .ok (.iconst 0, 1) := by decide +kernel
theorem dX10_caseByBraid_35 : decode cX10_caseByBraid 35 = .ok (.goto 10, 3) := by decide +kernel
theorem dX10_caseByBraid_38 : decode cX10_caseByBraid 38 = .ok (.aload_n 0, 1) := by decide +kernel
theorem dX10_caseByBraid_39 : decode cX10_caseByBraid 39 = .ok (.iload 4, 2) := by decide +kernel
theorem dX10_caseByBraid_41 : decode cX10_caseByBraid 41 = .ok (.iload_n 2, 1) := by decide +kernel
theorem dX10_caseByBraid_42 : decode cX10_caseByBraid 42 = .ok (.invokevirtual 204, 3) := by decide +kernel
theorem dX10_caseByBraid_45 : decode cX10_caseByBraid 45 = .ok (.istore 5, 2) := by decide +kernel
theorem dX10_caseByBraid_47 : decode cX10_caseByBraid 47 = .ok (.iload_n 3, 1) := by decide +kernel
theorem dX10_caseByBraid_48 : decode cX10_caseByBraid 48 = .ok (.iload 5, 2) := by decide +kernel
theorem dX10_caseByBraid_50 : decode cX10_caseByBraid 50 = .ok (.ifCond .gt 14, 3) := by decide +kernel
theorem dX10_caseByBraid_53 : decode cX10_caseByBraid 53 = .ok (.iload 5, 2) := by decide +kernel
theorem dX10_caseByBraid_55 : decode cX10_caseByBraid 55 = .ok (.ifCond .ne 13, 3) := by decide +kernel
theorem dX10_caseByBraid_58 : decode cX10_caseByBraid 58 = .ok (.iload 4, 2) := by decide +kernel
theorem dX10_caseByBraid_60 : decode cX10_caseByBraid 60 = .ok (.iload_n 2, 1) := by decide +kernel
theorem dX10_caseByBraid_61 : decode cX10_caseByBraid 61 = .ok (.if_icmp .ge 7, 3) := by decide +kernel
theorem dX10_caseByBraid_64 : decode cX10_caseByBraid 64 = .ok (.iconst 1, 1) := by decide +kernel
theorem dX10_caseByBraid_65 : decode cX10_caseByBraid 65 = .ok (.goto 4, 3) := by decide +kernel
theorem dX10_caseByBraid_68 : decode cX10_caseByBraid 68 = .ok (.iconst 0, 1) := by decide +kernel
theorem dX10_caseByBraid_69 : decode cX10_caseByBraid 69 = .ok (.iadd, 1) := by decide +kernel
theorem dX10_caseByBraid_70 : decode cX10_caseByBraid 70 = .ok (.istore_n 3, 1) := by decide +kernel
theorem dX10_caseByBraid_71 : decode cX10_caseByBraid 71 = .ok (.iinc 4 1, 3) := by decide +kernel
theorem dX10_caseByBraid_74 : decode cX10_caseByBraid 74 = .ok (.goto (-57), 3) := by decide +kernel
theorem dX10_caseByBraid_77 : decode cX10_caseByBraid 77 = .ok (.iload_n 3, 1) := by decide +kernel
theorem dX10_caseByBraid_78 : decode cX10_caseByBraid 78 = .ok (.iload_n 1, 1) := by decide +kernel
theorem dX10_caseByBraid_79 : decode cX10_caseByBraid 79 = .ok (.if_icmp .eq 6, 3) := by decide +kernel
theorem dX10_caseByBraid_82 : decode cX10_caseByBraid 82 = .ok (.goto 10, 3) := by decide +kernel
theorem dX10_caseByBraid_85 : decode cX10_caseByBraid 85 = .ok (.aload_n 0, 1) := by decide +kernel
theorem dX10_caseByBraid_86 : decode cX10_caseByBraid 86 = .ok (.iconst 0, 1) := by decide +kernel
theorem dX10_caseByBraid_87 : decode cX10_caseByBraid 87 = .ok (.putfield 49, 3) := by decide +kernel
theorem dX10_caseByBraid_90 : decode cX10_caseByBraid 90 = .ok (.iload_n 2, 1) := by decide +kernel
theorem dX10_caseByBraid_91 : decode cX10_caseByBraid 91 = .ok (.ireturn, 1) := by decide +kernel
theorem dX10_caseByBraid_92 : decode cX10_caseByBraid 92 = .ok (.iinc 2 1, 3) := by decide +kernel
theorem dX10_caseByBraid_95 : decode cX10_caseByBraid 95 = .ok (.goto (-93), 3) := by decide +kernel
theorem dX10_caseByBraid_98 : decode cX10_caseByBraid 98 = .ok (.aload_n 0, 1) := by decide +kernel
theorem dX10_caseByBraid_99 : decode cX10_caseByBraid 99 = .ok (.iconst 1, 1) := by decide +kernel
theorem dX10_caseByBraid_100 : decode cX10_caseByBraid 100 = .ok (.putfield 49, 3) := by decide +kernel
theorem dX10_caseByBraid_103 : decode cX10_caseByBraid 103 = .ok (.iconst 0, 1) := by decide +kernel
theorem dX10_caseByBraid_104 : decode cX10_caseByBraid 104 = .ok (.ireturn, 1) := by decide +kernel
theorem dX10_precedent_0 : decode cX10_precedent 0 = .ok (.iconst 0, 1) := by decide +kernel
theorem dX10_precedent_1 : decode cX10_precedent 1 = .ok (.istore_n 2, 1) := by decide +kernel
theorem dX10_precedent_2 : decode cX10_precedent 2 = .ok (.iload_n 2, 1) := by decide +kernel
theorem dX10_precedent_3 : decode cX10_precedent 3 = .ok (.aload_n 0, 1) := by decide +kernel
theorem dX10_precedent_4 : decode cX10_precedent 4 = .ok (.getfield 7, 3) := by decide +kernel
theorem dX10_precedent_7 : decode cX10_precedent 7 = .ok (.iconst 1, 1) := by decide +kernel
theorem dX10_precedent_8 : decode cX10_precedent 8 = .ok (.iaload, 1) := by decide +kernel
theorem dX10_precedent_9 : decode cX10_precedent 9 = .ok (.if_icmp .ge 26, 3) := by decide +kernel
theorem dX10_precedent_12 : decode cX10_precedent 12 = .ok (.aload_n 0, 1) := by decide +kernel
theorem dX10_precedent_13 : decode cX10_precedent 13 = .ok (.iload_n 2, 1) := by decide +kernel
theorem dX10_precedent_14 : decode cX10_precedent 14 = .ok (.invokestatic 207, 3) := by decide +kernel
theorem dX10_precedent_17 : decode cX10_precedent 17 = .ok (.iload_n 1, 1) := by decide +kernel
theorem dX10_precedent_18 : decode cX10_precedent 18 = .ok (.invokestatic 138, 3) := by decide +kernel
theorem dX10_precedent_21 : decode cX10_precedent 21 = .ok (.invokevirtual 194, 3) := by decide +kernel
theorem dX10_precedent_24 : decode cX10_precedent 24 = .ok (.ifCond .eq 5, 3) := by decide +kernel
theorem dX10_precedent_27 : decode cX10_precedent 27 = .ok (.iload_n 2, 1) := by decide +kernel
theorem dX10_precedent_28 : decode cX10_precedent 28 = .ok (.ireturn, 1) := by decide +kernel
theorem dX10_precedent_29 : decode cX10_precedent 29 = .ok (.iinc 2 1, 3) := by decide +kernel
theorem dX10_precedent_32 : decode cX10_precedent 32 = .ok (.goto (-30), 3) := by decide +kernel
theorem dX10_precedent_35 : decode cX10_precedent 35 = .ok (.iconst (-1), 1) := by decide +kernel
theorem dX10_precedent_36 : decode cX10_precedent 36 = .ok (.ireturn, 1) := by decide +kernel
theorem dX10_isTwisted_0 : decode cX10_isTwisted 0 = .ok (.aload_n 0, 1) := by decide +kernel
theorem dX10_isTwisted_1 : decode cX10_isTwisted 1 = .ok (.iload_n 1, 1) := by decide +kernel
theorem dX10_isTwisted_2 : decode cX10_isTwisted 2 = .ok (.invokevirtual 177, 3) := by decide +kernel
theorem dX10_isTwisted_5 : decode cX10_isTwisted 5 = .ok (.invokestatic 97, 3) := by decide +kernel
theorem dX10_isTwisted_8 : decode cX10_isTwisted 8 = .ok (.iconst 2, 1) := by decide +kernel
theorem dX10_isTwisted_9 : decode cX10_isTwisted 9 = .ok (.if_icmp .le 5, 3) := by decide +kernel
theorem dX10_isTwisted_12 : decode cX10_isTwisted 12 = .ok (.iconst 1, 1) := by decide +kernel
theorem dX10_isTwisted_13 : decode cX10_isTwisted 13 = .ok (.ireturn, 1) := by decide +kernel
theorem dX10_isTwisted_14 : decode cX10_isTwisted 14 = .ok (.iconst 1, 1) := by decide +kernel
theorem dX10_isTwisted_15 : decode cX10_isTwisted 15 = .ok (.istore_n 2, 1) := by decide +kernel
theorem dX10_isTwisted_16 : decode cX10_isTwisted 16 = .ok (.iload_n 2, 1) := by decide +kernel
theorem dX10_isTwisted_17 : decode cX10_isTwisted 17 = .ok (.iconst 5, 1) := by decide +kernel
theorem dX10_isTwisted_18 : decode cX10_isTwisted 18 = .ok (.if_icmp .gt 21, 3) := by decide +kernel
theorem dX10_isTwisted_21 : decode cX10_isTwisted 21 = .ok (.aload_n 0, 1) := by decide +kernel
theorem dX10_isTwisted_22 : decode cX10_isTwisted 22 = .ok (.iload_n 1, 1) := by decide +kernel
theorem dX10_isTwisted_23 : decode cX10_isTwisted 23 = .ok (.iload_n 2, 1) := by decide +kernel
theorem dX10_isTwisted_24 : decode cX10_isTwisted 24 = .ok (.invokevirtual 183, 3) := by decide +kernel
theorem dX10_isTwisted_27 : decode cX10_isTwisted 27 = .ok (.iload_n 2, 1) := by decide +kernel
theorem dX10_isTwisted_28 : decode cX10_isTwisted 28 = .ok (.if_icmp .eq 5, 3) := by decide +kernel
theorem dX10_isTwisted_31 : decode cX10_isTwisted 31 = .ok (.iconst 1, 1) := by decide +kernel
theorem dX10_isTwisted_32 : decode cX10_isTwisted 32 = .ok (.ireturn, 1) := by decide +kernel
theorem dX10_isTwisted_33 : decode cX10_isTwisted 33 = .ok (.iinc 2 1, 3) := by decide +kernel
theorem dX10_isTwisted_36 : decode cX10_isTwisted 36 = .ok (.goto (-20), 3) := by decide +kernel
theorem dX10_isTwisted_39 : decode cX10_isTwisted 39 = .ok (.iconst 0, 1) := by decide +kernel
theorem dX10_isTwisted_40 : decode cX10_isTwisted 40 = .ok (.ireturn, 1) := by decide +kernel
theorem dX10_makes_0 : decode cX10_makes 0 = .ok (.aload_n 0, 1) := by decide +kernel
theorem dX10_makes_1 : decode cX10_makes 1 = .ok (.getfield 7, 3) := by decide +kernel
theorem dX10_makes_4 : decode cX10_makes 4 = .ok (.iconst 1, 1) := by decide +kernel
theorem dX10_makes_5 : decode cX10_makes 5 = .ok (.iaload, 1) := by decide +kernel
theorem dX10_makes_6 : decode cX10_makes 6 = .ok (.invokestatic 207, 3) := by decide +kernel
theorem dX10_makes_9 : decode cX10_makes 9 = .ok (.istore_n 2, 1) := by decide +kernel
theorem dX10_makes_10 : decode cX10_makes 10 = .ok (.aload_n 0, 1) := by decide +kernel
theorem dX10_makes_11 : decode cX10_makes 11 = .ok (.getfield 7, 3) := by decide +kernel
theorem dX10_makes_14 : decode cX10_makes 14 = .ok (.iload_n 2, 1) := by decide +kernel
theorem dX10_makes_15 : decode cX10_makes 15 = .ok (.iconst 0, 1) := by decide +kernel
theorem dX10_makes_16 : decode cX10_makes 16 = .ok (.iadd, 1) := by decide +kernel
theorem dX10_makes_17 : decode cX10_makes 17 = .ok (.aload_n 0, 1) := by decide +kernel
theorem dX10_makes_18 : decode cX10_makes 18 = .ok (.iload_n 1, 1) := by decide +kernel
theorem dX10_makes_19 : decode cX10_makes 19 = .ok (.iconst 0, 1) := by decide +kernel
theorem dX10_makes_20 : decode cX10_makes 20 = .ok (.invokevirtual 149, 3) := by decide +kernel
theorem dX10_makes_23 : decode cX10_makes 23 = .ok (.iastore, 1) := by decide +kernel
theorem dX10_makes_24 : decode cX10_makes 24 = .ok (.aload_n 0, 1) := by decide +kernel
theorem dX10_makes_25 : decode cX10_makes 25 = .ok (.getfield 7, 3) := by decide +kernel
theorem dX10_makes_28 : decode cX10_makes 28 = .ok (.iload_n 2, 1) := by decide +kernel
theorem dX10_makes_29 : decode cX10_makes 29 = .ok (.iconst 1, 1) := by decide +kernel
theorem dX10_makes_30 : decode cX10_makes 30 = .ok (.iadd, 1) := by decide +kernel
theorem dX10_makes_31 : decode cX10_makes 31 = .ok (.aload_n 0, 1) := by decide +kernel
theorem dX10_makes_32 : decode cX10_makes 32 = .ok (.iload_n 1, 1) := by decide +kernel
theorem dX10_makes_33 : decode cX10_makes 33 = .ok (.invokevirtual 210, 3) := by decide +kernel
theorem dX10_makes_36 : decode cX10_makes 36 = .ok (.ifCond .eq 7, 3) := by decide +kernel
theorem dX10_makes_39 : decode cX10_makes 39 = .ok (.iconst 1, 1) := by decide +kernel
theorem dX10_makes_40 : decode cX10_makes 40 = .ok (.goto 4, 3) := by decide +kernel
theorem dX10_makes_43 : decode cX10_makes 43 = .ok (.iconst 2, 1) := by decide +kernel
theorem dX10_makes_44 : decode cX10_makes 44 = .ok (.iastore, 1) := by decide +kernel
theorem dX10_makes_45 : decode cX10_makes 45 = .ok (.aload_n 0, 1) := by decide +kernel
theorem dX10_makes_46 : decode cX10_makes 46 = .ok (.getfield 7, 3) := by decide +kernel
theorem dX10_makes_49 : decode cX10_makes 49 = .ok (.iload_n 2, 1) := by decide +kernel
theorem dX10_makes_50 : decode cX10_makes 50 = .ok (.iconst 2, 1) := by decide +kernel
theorem dX10_makes_51 : decode cX10_makes 51 = .ok (.iadd, 1) := by decide +kernel
theorem dX10_makes_52 : decode cX10_makes 52 = .ok (.iconst 0, 1) := by decide +kernel
theorem dX10_makes_53 : decode cX10_makes 53 = .ok (.iastore, 1) := by decide +kernel
theorem dX10_makes_54 : decode cX10_makes 54 = .ok (.aload_n 0, 1) := by decide +kernel
theorem dX10_makes_55 : decode cX10_makes 55 = .ok (.getfield 7, 3) := by decide +kernel
theorem dX10_makes_58 : decode cX10_makes 58 = .ok (.iload_n 2, 1) := by decide +kernel
theorem dX10_makes_59 : decode cX10_makes 59 = .ok (.iconst 3, 1) := by decide +kernel
theorem dX10_makes_60 : decode cX10_makes 60 = .ok (.iadd, 1) := by decide +kernel
theorem dX10_makes_61 : decode cX10_makes 61 = .ok (.aload_n 0, 1) := by decide +kernel
theorem dX10_makes_62 : decode cX10_makes 62 = .ok (.iload_n 1, 1) := by decide +kernel
theorem dX10_makes_63 : decode cX10_makes 63 = .ok (.iconst 3, 1) := by decide +kernel
theorem dX10_makes_64 : decode cX10_makes 64 = .ok (.invokevirtual 149, 3) := by decide +kernel
theorem dX10_makes_67 : decode cX10_makes 67 = .ok (.iastore, 1) := by decide +kernel
theorem dX10_makes_68 : decode cX10_makes 68 = .ok (.aload_n 0, 1) := by decide +kernel
theorem dX10_makes_69 : decode cX10_makes 69 = .ok (.getfield 7, 3) := by decide +kernel
theorem dX10_makes_72 : decode cX10_makes 72 = .ok (.iload_n 2, 1) := by decide +kernel
theorem dX10_makes_73 : decode cX10_makes 73 = .ok (.iconst 3, 1) := by decide +kernel
theorem dX10_makes_74 : decode cX10_makes 74 = .ok (.iadd, 1) := by decide +kernel
theorem dX10_makes_75 : decode cX10_makes 75 = .ok (.iconst 1, 1) := by decide +kernel
theorem dX10_makes_76 : decode cX10_makes 76 = .ok (.iadd, 1) := by decide +kernel
theorem dX10_makes_77 : decode cX10_makes 77 = .ok (.aload_n 0, 1) := by decide +kernel
theorem dX10_makes_78 : decode cX10_makes 78 = .ok (.iload_n 1, 1) := by decide +kernel
theorem dX10_makes_79 : decode cX10_makes 79 = .ok (.iconst 4, 1) := by decide +kernel
theorem dX10_makes_80 : decode cX10_makes 80 = .ok (.invokevirtual 149, 3) := by decide +kernel
theorem dX10_makes_83 : decode cX10_makes 83 = .ok (.iastore, 1) := by decide +kernel
theorem dX10_makes_84 : decode cX10_makes 84 = .ok (.aload_n 0, 1) := by decide +kernel
theorem dX10_makes_85 : decode cX10_makes 85 = .ok (.getfield 7, 3) := by decide +kernel
theorem dX10_makes_88 : decode cX10_makes 88 = .ok (.iconst 1, 1) := by decide +kernel
theorem dX10_makes_89 : decode cX10_makes 89 = .ok (.dup2, 1) := by decide +kernel
theorem dX10_makes_90 : decode cX10_makes 90 = .ok (.iaload, 1) := by decide +kernel
theorem dX10_makes_91 : decode cX10_makes 91 = .ok (.iconst 1, 1) := by decide +kernel
theorem dX10_makes_92 : decode cX10_makes 92 = .ok (.iadd, 1) := by decide +kernel
theorem dX10_makes_93 : decode cX10_makes 93 = .ok (.iastore, 1) := by decide +kernel
theorem dX10_makes_94 : decode cX10_makes 94 = .ok (.aload_n 0, 1) := by decide +kernel
theorem dX10_makes_95 : decode cX10_makes 95 = .ok (.getfield 7, 3) := by decide +kernel
theorem dX10_makes_98 : decode cX10_makes 98 = .ok (.iconst 1, 1) := by decide +kernel
theorem dX10_makes_99 : decode cX10_makes 99 = .ok (.iaload, 1) := by decide +kernel
theorem dX10_makes_100 : decode cX10_makes 100 = .ok (.iconst 1, 1) := by decide +kernel
theorem dX10_makes_101 : decode cX10_makes 101 = .ok (.isub, 1) := by decide +kernel
theorem dX10_makes_102 : decode cX10_makes 102 = .ok (.ireturn, 1) := by decide +kernel
theorem dX10_decide_0 : decode cX10_decide 0 = .ok (.aload_n 0, 1) := by decide +kernel
theorem dX10_decide_1 : decode cX10_decide 1 = .ok (.iload_n 1, 1) := by decide +kernel
theorem dX10_decide_2 : decode cX10_decide 2 = .ok (.invokevirtual 155, 3) := by decide +kernel
theorem dX10_decide_5 : decode cX10_decide 5 = .ok (.ifCond .ne 11, 3) := by decide +kernel
theorem dX10_decide_8 : decode cX10_decide 8 = .ok (.aload_n 0, 1) := by decide +kernel
theorem dX10_decide_9 : decode cX10_decide 9 = .ok (.iload_n 1, 1) := by decide +kernel
theorem dX10_decide_10 : decode cX10_decide 10 = .ok (.invokevirtual 158, 3) := by decide +kernel
theorem dX10_decide_13 : decode cX10_decide 13 = .ok (.ifCond .eq 5, 3) := by decide +kernel
theorem dX10_decide_16 : decode cX10_decide 16 = .ok (.iconst 0, 1) := by decide +kernel
theorem dX10_decide_17 : decode cX10_decide 17 = .ok (.ireturn, 1) := by decide +kernel
theorem dX10_decide_18 : decode cX10_decide 18 = .ok (.aload_n 0, 1) := by decide +kernel
theorem dX10_decide_19 : decode cX10_decide 19 = .ok (.aload_n 0, 1) := by decide +kernel
theorem dX10_decide_20 : decode cX10_decide 20 = .ok (.getfield 7, 3) := by decide +kernel
theorem dX10_decide_23 : decode cX10_decide 23 = .ok (.invokevirtual 145, 3) := by decide +kernel
theorem dX10_decide_26 : decode cX10_decide 26 = .ok (.aload_n 0, 1) := by decide +kernel
theorem dX10_decide_27 : decode cX10_decide 27 = .ok (.iload_n 1, 1) := by decide +kernel
theorem dX10_decide_28 : decode cX10_decide 28 = .ok (.invokevirtual 213, 3) := by decide +kernel
theorem dX10_decide_31 : decode cX10_decide 31 = .ok (.istore_n 2, 1) := by decide +kernel
theorem dX10_decide_32 : decode cX10_decide 32 = .ok (.iload_n 2, 1) := by decide +kernel
theorem dX10_decide_33 : decode cX10_decide 33 = .ok (.ifCond .ge 9, 3) := by decide +kernel
theorem dX10_decide_36 : decode cX10_decide 36 = .ok (.aload_n 0, 1) := by decide +kernel
theorem dX10_decide_37 : decode cX10_decide 37 = .ok (.iload_n 1, 1) := by decide +kernel
theorem dX10_decide_38 : decode cX10_decide 38 = .ok (.invokevirtual 216, 3) := by decide +kernel
theorem dX10_decide_41 : decode cX10_decide 41 = .ok (.istore_n 2, 1) := by decide +kernel
theorem dX10_decide_42 : decode cX10_decide 42 = .ok (.aload_n 0, 1) := by decide +kernel
theorem dX10_decide_43 : decode cX10_decide 43 = .ok (.getfield 7, 3) := by decide +kernel
theorem dX10_decide_46 : decode cX10_decide 46 = .ok (.iload_n 1, 1) := by decide +kernel
theorem dX10_decide_47 : decode cX10_decide 47 = .ok (.invokestatic 138, 3) := by decide +kernel
theorem dX10_decide_50 : decode cX10_decide 50 = .ok (.iconst 1, 1) := by decide +kernel
theorem dX10_decide_51 : decode cX10_decide 51 = .ok (.iadd, 1) := by decide +kernel
theorem dX10_decide_52 : decode cX10_decide 52 = .ok (.aload_n 0, 1) := by decide +kernel
theorem dX10_decide_53 : decode cX10_decide 53 = .ok (.getfield 7, 3) := by decide +kernel
theorem dX10_decide_56 : decode cX10_decide 56 = .ok (.iload_n 2, 1) := by decide +kernel
theorem dX10_decide_57 : decode cX10_decide 57 = .ok (.invokestatic 207, 3) := by decide +kernel
theorem dX10_decide_60 : decode cX10_decide 60 = .ok (.iconst 1, 1) := by decide +kernel
theorem dX10_decide_61 : decode cX10_decide 61 = .ok (.iadd, 1) := by decide +kernel
theorem dX10_decide_62 : decode cX10_decide 62 = .ok (.iaload, 1) := by decide +kernel
theorem dX10_decide_63 : decode cX10_decide 63 = .ok (.iastore, 1) := by decide +kernel
theorem dX10_decide_64 : decode cX10_decide 64 = .ok (.aload_n 0, 1) := by decide +kernel
theorem dX10_decide_65 : decode cX10_decide 65 = .ok (.getfield 7, 3) := by decide +kernel
theorem dX10_decide_68 : decode cX10_decide 68 = .ok (.iload_n 1, 1) := by decide +kernel
theorem dX10_decide_69 : decode cX10_decide 69 = .ok (.invokestatic 138, 3) := by decide +kernel
theorem dX10_decide_72 : decode cX10_decide 72 = .ok (.iconst 2, 1) := by decide +kernel
theorem dX10_decide_73 : decode cX10_decide 73 = .ok (.iadd, 1) := by decide +kernel
theorem dX10_decide_74 : decode cX10_decide 74 = .ok (.iload_n 2, 1) := by decide +kernel
theorem dX10_decide_75 : decode cX10_decide 75 = .ok (.iastore, 1) := by decide +kernel
theorem dX10_decide_76 : decode cX10_decide 76 = .ok (.aload_n 0, 1) := by decide +kernel
theorem dX10_decide_77 : decode cX10_decide 77 = .ok (.iload_n 1, 1) := by decide +kernel
theorem dX10_decide_78 : decode cX10_decide 78 = .ok (.iconst 1, 1) := by decide +kernel
theorem dX10_decide_79 : decode cX10_decide 79 = .ok (.invokevirtual 149, 3) := by decide +kernel
theorem dX10_decide_82 : decode cX10_decide 82 = .ok (.iconst 1, 1) := by decide +kernel
theorem dX10_decide_83 : decode cX10_decide 83 = .ok (.if_icmp .ne 7, 3) := by decide +kernel
theorem dX10_decide_86 : decode cX10_decide 86 = .ok (.iconst 1, 1) := by decide +kernel
theorem dX10_decide_87 : decode cX10_decide 87 = .ok (.goto 4, 3) := by decide +kernel
theorem dX10_decide_90 : decode cX10_decide 90 = .ok (.iconst 0, 1) := by decide +kernel
theorem dX10_decide_91 : decode cX10_decide 91 = .ok (.ireturn, 1) := by decide +kernel
theorem dX10_appeal_0 : decode cX10_appeal 0 = .ok (.aload_n 0, 1) := by decide +kernel
theorem dX10_appeal_1 : decode cX10_appeal 1 = .ok (.iload_n 1, 1) := by decide +kernel
theorem dX10_appeal_2 : decode cX10_appeal 2 = .ok (.invokevirtual 155, 3) := by decide +kernel
theorem dX10_appeal_5 : decode cX10_appeal 5 = .ok (.ifCond .eq 5, 3) := by decide +kernel
theorem dX10_appeal_8 : decode cX10_appeal 8 = .ok (.iconst 0, 1) := by decide +kernel
theorem dX10_appeal_9 : decode cX10_appeal 9 = .ok (.ireturn, 1) := by decide +kernel
theorem dX10_appeal_10 : decode cX10_appeal 10 = .ok (.aload_n 0, 1) := by decide +kernel
theorem dX10_appeal_11 : decode cX10_appeal 11 = .ok (.iload_n 1, 1) := by decide +kernel
theorem dX10_appeal_12 : decode cX10_appeal 12 = .ok (.iconst 1, 1) := by decide +kernel
theorem dX10_appeal_13 : decode cX10_appeal 13 = .ok (.invokevirtual 149, 3) := by decide +kernel
theorem dX10_appeal_16 : decode cX10_appeal 16 = .ok (.ifCond .ne 11, 3) := by decide +kernel
theorem dX10_appeal_19 : decode cX10_appeal 19 = .ok (.aload_n 0, 1) := by decide +kernel
theorem dX10_appeal_20 : decode cX10_appeal 20 = .ok (.iconst 2, 1) := by decide +kernel
theorem dX10_appeal_21 : decode cX10_appeal 21 = .ok (.iconst 3, 1) := by decide +kernel
theorem dX10_appeal_22 : decode cX10_appeal 22 = .ok (.iload_n 1, 1) := by decide +kernel
theorem dX10_appeal_23 : decode cX10_appeal 23 = .ok (.invokevirtual 141, 3) := by decide +kernel
theorem dX10_appeal_26 : decode cX10_appeal 26 = .ok (.ireturn, 1) := by decide +kernel
theorem dX10_appeal_27 : decode cX10_appeal 27 = .ok (.aload_n 0, 1) := by decide +kernel
theorem dX10_appeal_28 : decode cX10_appeal 28 = .ok (.iload_n 1, 1) := by decide +kernel
theorem dX10_appeal_29 : decode cX10_appeal 29 = .ok (.iconst 2, 1) := by decide +kernel
theorem dX10_appeal_30 : decode cX10_appeal 30 = .ok (.invokevirtual 149, 3) := by decide +kernel
theorem dX10_appeal_33 : decode cX10_appeal 33 = .ok (.istore_n 2, 1) := by decide +kernel
theorem dX10_appeal_34 : decode cX10_appeal 34 = .ok (.iload_n 2, 1) := by decide +kernel
theorem dX10_appeal_35 : decode cX10_appeal 35 = .ok (.invokestatic 207, 3) := by decide +kernel
theorem dX10_appeal_38 : decode cX10_appeal 38 = .ok (.istore_n 3, 1) := by decide +kernel
theorem dX10_appeal_39 : decode cX10_appeal 39 = .ok (.aload_n 0, 1) := by decide +kernel
theorem dX10_appeal_40 : decode cX10_appeal 40 = .ok (.getfield 7, 3) := by decide +kernel
theorem dX10_appeal_43 : decode cX10_appeal 43 = .ok (.iload_n 3, 1) := by decide +kernel
theorem dX10_appeal_44 : decode cX10_appeal 44 = .ok (.iconst 2, 1) := by decide +kernel
theorem dX10_appeal_45 : decode cX10_appeal 45 = .ok (.iadd, 1) := by decide +kernel
theorem dX10_appeal_46 : decode cX10_appeal 46 = .ok (.iaload, 1) := by decide +kernel
theorem dX10_appeal_47 : decode cX10_appeal 47 = .ok (.ifCond .le 12, 3) := by decide +kernel
theorem dX10_appeal_50 : decode cX10_appeal 50 = .ok (.aload_n 0, 1) := by decide +kernel
theorem dX10_appeal_51 : decode cX10_appeal 51 = .ok (.iconst 2, 1) := by decide +kernel
theorem dX10_appeal_52 : decode cX10_appeal 52 = .ok (.bipush 6, 2) := by decide +kernel
theorem dX10_appeal_54 : decode cX10_appeal 54 = .ok (.iload_n 2, 1) := by decide +kernel
theorem dX10_appeal_55 : decode cX10_appeal 55 = .ok (.invokevirtual 141, 3) := by decide +kernel
theorem dX10_appeal_58 : decode cX10_appeal 58 = .ok (.ireturn, 1) := by decide +kernel
theorem dX10_appeal_59 : decode cX10_appeal 59 = .ok (.aload_n 0, 1) := by decide +kernel
theorem dX10_appeal_60 : decode cX10_appeal 60 = .ok (.aload_n 0, 1) := by decide +kernel
theorem dX10_appeal_61 : decode cX10_appeal 61 = .ok (.getfield 7, 3) := by decide +kernel
theorem dX10_appeal_64 : decode cX10_appeal 64 = .ok (.invokevirtual 145, 3) := by decide +kernel
theorem dX10_appeal_67 : decode cX10_appeal 67 = .ok (.aload_n 0, 1) := by decide +kernel
theorem dX10_appeal_68 : decode cX10_appeal 68 = .ok (.getfield 7, 3) := by decide +kernel
theorem dX10_appeal_71 : decode cX10_appeal 71 = .ok (.iload_n 3, 1) := by decide +kernel
theorem dX10_appeal_72 : decode cX10_appeal 72 = .ok (.iconst 2, 1) := by decide +kernel
theorem dX10_appeal_73 : decode cX10_appeal 73 = .ok (.iadd, 1) := by decide +kernel
theorem dX10_appeal_74 : decode cX10_appeal 74 = .ok (.iconst 1, 1) := by decide +kernel
theorem dX10_appeal_75 : decode cX10_appeal 75 = .ok (.iastore, 1) := by decide +kernel
theorem dX10_appeal_76 : decode cX10_appeal 76 = .ok (.aload_n 0, 1) := by decide +kernel
theorem dX10_appeal_77 : decode cX10_appeal 77 = .ok (.iload_n 3, 1) := by decide +kernel
theorem dX10_appeal_78 : decode cX10_appeal 78 = .ok (.invokevirtual 128, 3) := by decide +kernel
theorem dX10_appeal_81 : decode cX10_appeal 81 = .ok (.aload_n 0, 1) := by decide +kernel
theorem dX10_appeal_82 : decode cX10_appeal 82 = .ok (.invokevirtual 201, 3) := by decide +kernel
theorem dX10_appeal_85 : decode cX10_appeal 85 = .ok (.ifCond .gt 5, 3) := by decide +kernel
theorem dX10_appeal_88 : decode cX10_appeal 88 = .ok (.iconst 0, 1) := by decide +kernel
theorem dX10_appeal_89 : decode cX10_appeal 89 = .ok (.ireturn, 1) := by decide +kernel
theorem dX10_appeal_90 : decode cX10_appeal 90 = .ok (.aload_n 0, 1) := by decide +kernel
theorem dX10_appeal_91 : decode cX10_appeal 91 = .ok (.getfield 7, 3) := by decide +kernel
theorem dX10_appeal_94 : decode cX10_appeal 94 = .ok (.iload_n 3, 1) := by decide +kernel
theorem dX10_appeal_95 : decode cX10_appeal 95 = .ok (.iconst 1, 1) := by decide +kernel
theorem dX10_appeal_96 : decode cX10_appeal 96 = .ok (.iadd, 1) := by decide +kernel
theorem dX10_appeal_97 : decode cX10_appeal 97 = .ok (.iconst 3, 1) := by decide +kernel
theorem dX10_appeal_98 : decode cX10_appeal 98 = .ok (.aload_n 0, 1) := by decide +kernel
theorem dX10_appeal_99 : decode cX10_appeal 99 = .ok (.getfield 7, 3) := by decide +kernel
theorem dX10_appeal_102 : decode cX10_appeal 102 = .ok (.iload_n 3, 1) := by decide +kernel
theorem dX10_appeal_103 : decode cX10_appeal 103 = .ok (.iconst 1, 1) := by decide +kernel
theorem dX10_appeal_104 : decode cX10_appeal 104 = .ok (.iadd, 1) := by decide +kernel
theorem dX10_appeal_105 : decode cX10_appeal 105 = .ok (.iaload, 1) := by decide +kernel
theorem dX10_appeal_106 : decode cX10_appeal 106 = .ok (.isub, 1) := by decide +kernel
theorem dX10_appeal_107 : decode cX10_appeal 107 = .ok (.iastore, 1) := by decide +kernel
theorem dX10_appeal_108 : decode cX10_appeal 108 = .ok (.iconst 0, 1) := by decide +kernel
theorem dX10_appeal_109 : decode cX10_appeal 109 = .ok (.istore 4, 2) := by decide +kernel
theorem dX10_appeal_111 : decode cX10_appeal 111 = .ok (.iconst 0, 1) := by decide +kernel
theorem dX10_appeal_112 : decode cX10_appeal 112 = .ok (.istore 5, 2) := by decide +kernel
theorem dX10_appeal_114 : decode cX10_appeal 114 = .ok (.iload 5, 2) := by decide +kernel
theorem dX10_appeal_116 : decode cX10_appeal 116 = .ok (.aload_n 0, 1) := by decide +kernel
theorem dX10_appeal_117 : decode cX10_appeal 117 = .ok (.getfield 7, 3) := by decide +kernel
theorem dX10_appeal_120 : decode cX10_appeal 120 = .ok (.iconst 0, 1) := by decide +kernel
theorem dX10_appeal_121 : decode cX10_appeal 121 = .ok (.iaload, 1) := by decide +kernel
theorem dX10_appeal_122 : decode cX10_appeal 122 = .ok (.if_icmp .ge 56, 3) := by decide +kernel
theorem dX10_appeal_125 : decode cX10_appeal 125 = .ok (.aload_n 0, 1) := by decide +kernel
theorem dX10_appeal_126 : decode cX10_appeal 126 = .ok (.iload 5, 2) := by decide +kernel
theorem dX10_appeal_128 : decode cX10_appeal 128 = .ok (.iconst 1, 1) := by decide +kernel
theorem dX10_appeal_129 : decode cX10_appeal 129 = .ok (.invokevirtual 149, 3) := by decide +kernel
theorem dX10_appeal_132 : decode cX10_appeal 132 = .ok (.ifCond .eq 40, 3) := by decide +kernel
theorem dX10_appeal_135 : decode cX10_appeal 135 = .ok (.aload_n 0, 1) := by decide +kernel
theorem dX10_appeal_136 : decode cX10_appeal 136 = .ok (.iload 5, 2) := by decide +kernel
theorem dX10_appeal_138 : decode cX10_appeal 138 = .ok (.iconst 2, 1) := by decide +kernel
theorem dX10_appeal_139 : decode cX10_appeal 139 = .ok (.invokevirtual 149, 3) := by decide +kernel
theorem dX10_appeal_142 : decode cX10_appeal 142 = .ok (.iload_n 2, 1) := by decide +kernel
theorem dX10_appeal_143 : decode cX10_appeal 143 = .ok (.if_icmp .eq 6, 3) := by decide +kernel
theorem dX10_appeal_146 : decode cX10_appeal 146 = .ok (.goto 26, 3) := by decide +kernel
theorem dX10_appeal_149 : decode cX10_appeal 149 = .ok (.aload_n 0, 1) := by decide +kernel
theorem dX10_appeal_150 : decode cX10_appeal 150 = .ok (.getfield 7, 3) := by decide +kernel
theorem dX10_appeal_153 : decode cX10_appeal 153 = .ok (.iload 5, 2) := by decide +kernel
theorem dX10_appeal_155 : decode cX10_appeal 155 = .ok (.invokestatic 138, 3) := by decide +kernel
theorem dX10_appeal_158 : decode cX10_appeal 158 = .ok (.iconst 1, 1) := by decide +kernel
theorem dX10_appeal_159 : decode cX10_appeal 159 = .ok (.iadd, 1) := by decide +kernel
theorem dX10_appeal_160 : decode cX10_appeal 160 = .ok (.aload_n 0, 1) := by decide +kernel
theorem dX10_appeal_161 : decode cX10_appeal 161 = .ok (.getfield 7, 3) := by decide +kernel
theorem dX10_appeal_164 : decode cX10_appeal 164 = .ok (.iload_n 3, 1) := by decide +kernel
theorem dX10_appeal_165 : decode cX10_appeal 165 = .ok (.iconst 1, 1) := by decide +kernel
theorem dX10_appeal_166 : decode cX10_appeal 166 = .ok (.iadd, 1) := by decide +kernel
theorem dX10_appeal_167 : decode cX10_appeal 167 = .ok (.iaload, 1) := by decide +kernel
theorem dX10_appeal_168 : decode cX10_appeal 168 = .ok (.iastore, 1) := by decide +kernel
theorem dX10_appeal_169 : decode cX10_appeal 169 = .ok (.iinc 4 1, 3) := by decide +kernel
theorem dX10_appeal_172 : decode cX10_appeal 172 = .ok (.iinc 5 1, 3) := by decide +kernel
theorem dX10_appeal_175 : decode cX10_appeal 175 = .ok (.goto (-61), 3) := by decide +kernel
theorem dX10_appeal_178 : decode cX10_appeal 178 = .ok (.iload 4, 2) := by decide +kernel
theorem dX10_appeal_180 : decode cX10_appeal 180 = .ok (.ireturn, 1) := by decide +kernel
theorem dX10_isDecided_0 : decode cX10_isDecided 0 = .ok (.aload_n 0, 1) := by decide +kernel
theorem dX10_isDecided_1 : decode cX10_isDecided 1 = .ok (.iload_n 1, 1) := by decide +kernel
theorem dX10_isDecided_2 : decode cX10_isDecided 2 = .ok (.invokevirtual 155, 3) := by decide +kernel
theorem dX10_isDecided_5 : decode cX10_isDecided 5 = .ok (.ifCond .ne 16, 3) := by decide +kernel
theorem dX10_isDecided_8 : decode cX10_isDecided 8 = .ok (.aload_n 0, 1) := by decide +kernel
theorem dX10_isDecided_9 : decode cX10_isDecided 9 = .ok (.iload_n 1, 1) := by decide +kernel
theorem dX10_isDecided_10 : decode cX10_isDecided 10 = .ok (.iconst 1, 1) := by decide +kernel
theorem dX10_isDecided_11 : decode cX10_isDecided 11 = .ok (.invokevirtual 149, 3) := by decide +kernel
theorem dX10_isDecided_14 : decode cX10_isDecided 14 = .ok (.ifCond .le 7, 3) := by decide +kernel
theorem dX10_isDecided_17 : decode cX10_isDecided 17 = .ok (.iconst 1, 1) := by decide +kernel
theorem dX10_isDecided_18 : decode cX10_isDecided 18 = .ok (.goto 4, 3) := by decide +kernel
theorem dX10_isDecided_21 : decode cX10_isDecided 21 = .ok (.iconst 0, 1) := by decide +kernel
theorem dX10_isDecided_22 : decode cX10_isDecided 22 = .ok (.ireturn, 1) := by decide +kernel
theorem dX10_isTangled_0 : decode cX10_isTangled 0 = .ok (.aload_n 0, 1) := by decide +kernel
theorem dX10_isTangled_1 : decode cX10_isTangled 1 = .ok (.iload_n 1, 1) := by decide +kernel
theorem dX10_isTangled_2 : decode cX10_isTangled 2 = .ok (.invokevirtual 155, 3) := by decide +kernel
theorem dX10_isTangled_5 : decode cX10_isTangled 5 = .ok (.ifCond .ne 17, 3) := by decide +kernel
theorem dX10_isTangled_8 : decode cX10_isTangled 8 = .ok (.aload_n 0, 1) := by decide +kernel
theorem dX10_isTangled_9 : decode cX10_isTangled 9 = .ok (.iload_n 1, 1) := by decide +kernel
theorem dX10_isTangled_10 : decode cX10_isTangled 10 = .ok (.iconst 1, 1) := by decide +kernel
theorem dX10_isTangled_11 : decode cX10_isTangled 11 = .ok (.invokevirtual 149, 3) := by decide +kernel
theorem dX10_isTangled_14 : decode cX10_isTangled 14 = .ok (.iconst 1, 1) := by decide +kernel
theorem dX10_isTangled_15 : decode cX10_isTangled 15 = .ok (.if_icmp .ne 7, 3) := by decide +kernel
theorem dX10_isTangled_18 : decode cX10_isTangled 18 = .ok (.iconst 1, 1) := by decide +kernel
theorem dX10_isTangled_19 : decode cX10_isTangled 19 = .ok (.goto 4, 3) := by decide +kernel
theorem dX10_isTangled_22 : decode cX10_isTangled 22 = .ok (.iconst 0, 1) := by decide +kernel
theorem dX10_isTangled_23 : decode cX10_isTangled 23 = .ok (.ireturn, 1) := by decide +kernel
theorem dX10_precedentOf_0 : decode cX10_precedentOf 0 = .ok (.aload_n 0, 1) := by decide +kernel
theorem dX10_precedentOf_1 : decode cX10_precedentOf 1 = .ok (.aload_n 0, 1) := by decide +kernel
theorem dX10_precedentOf_2 : decode cX10_precedentOf 2 = .ok (.iload_n 1, 1) := by decide +kernel
theorem dX10_precedentOf_3 : decode cX10_precedentOf 3 = .ok (.invokevirtual 131, 3) := by decide +kernel
theorem dX10_precedentOf_6 : decode cX10_precedentOf 6 = .ok (.ifCond .ne 7, 3) := by decide +kernel
theorem dX10_precedentOf_9 : decode cX10_precedentOf 9 = .ok (.iconst 1, 1) := by decide +kernel
theorem dX10_precedentOf_10 : decode cX10_precedentOf 10 = .ok (.goto 17, 3) := by decide +kernel
theorem dX10_precedentOf_13 : decode cX10_precedentOf 13 = .ok (.aload_n 0, 1) := by decide +kernel
theorem dX10_precedentOf_14 : decode cX10_precedentOf 14 = .ok (.iload_n 1, 1) := by decide +kernel
theorem dX10_precedentOf_15 : decode cX10_precedentOf 15 = .ok (.iconst 1, 1) := by decide +kernel
theorem dX10_precedentOf_16 : decode cX10_precedentOf 16 = .ok (.invokevirtual 149, 3) := by decide +kernel
theorem dX10_precedentOf_19 : decode cX10_precedentOf 19 = .ok (.ifCond .ne 7, 3) := by decide +kernel
theorem dX10_precedentOf_22 : decode cX10_precedentOf 22 = .ok (.iconst 2, 1) := by decide +kernel
theorem dX10_precedentOf_23 : decode cX10_precedentOf 23 = .ok (.goto 4, 3) := by decide +kernel
theorem dX10_precedentOf_26 : decode cX10_precedentOf 26 = .ok (.iconst 0, 1) := by decide +kernel
theorem dX10_precedentOf_27 : decode cX10_precedentOf 27 = .ok (.invokevirtual 135, 3) := by decide +kernel
theorem dX10_precedentOf_30 : decode cX10_precedentOf 30 = .ok (.ifCond .eq 7, 3) := by decide +kernel
theorem dX10_precedentOf_33 : decode cX10_precedentOf 33 = .ok (.iconst 0, 1) := by decide +kernel
theorem dX10_precedentOf_34 : decode cX10_precedentOf 34 = .ok (.goto 9, 3) := by decide +kernel
theorem dX10_precedentOf_37 : decode cX10_precedentOf 37 = .ok (.aload_n 0, 1) := by decide +kernel
theorem dX10_precedentOf_38 : decode cX10_precedentOf 38 = .ok (.iload_n 1, 1) := by decide +kernel
theorem dX10_precedentOf_39 : decode cX10_precedentOf 39 = .ok (.iconst 2, 1) := by decide +kernel
theorem dX10_precedentOf_40 : decode cX10_precedentOf 40 = .ok (.invokevirtual 149, 3) := by decide +kernel
theorem dX10_precedentOf_43 : decode cX10_precedentOf 43 = .ok (.ireturn, 1) := by decide +kernel
theorem dX10_findPrecedent_0 : decode cX10_findPrecedent 0 = .ok (.aload_n 0, 1) := by decide +kernel
theorem dX10_findPrecedent_1 : decode cX10_findPrecedent 1 = .ok (.iload_n 1, 1) := by decide +kernel
theorem dX10_findPrecedent_2 : decode cX10_findPrecedent 2 = .ok (.invokevirtual 155, 3) := by decide +kernel
theorem dX10_findPrecedent_5 : decode cX10_findPrecedent 5 = .ok (.ifCond .eq 5, 3) := by decide +kernel
theorem dX10_findPrecedent_8 : decode cX10_findPrecedent 8 = .ok (.iconst 0, 1) := by decide +kernel
theorem dX10_findPrecedent_9 : decode cX10_findPrecedent 9 = .ok (.ireturn, 1) := by decide +kernel
theorem dX10_findPrecedent_10 : decode cX10_findPrecedent 10 = .ok (.aload_n 0, 1) := by decide +kernel
theorem dX10_findPrecedent_11 : decode cX10_findPrecedent 11 = .ok (.iload_n 1, 1) := by decide +kernel
theorem dX10_findPrecedent_12 : decode cX10_findPrecedent 12 = .ok (.invokevirtual 213, 3) := by decide +kernel
theorem dX10_findPrecedent_15 : decode cX10_findPrecedent 15 = .ok (.istore_n 2, 1) := by decide +kernel
theorem dX10_findPrecedent_16 : decode cX10_findPrecedent 16 = .ok (.aload_n 0, 1) := by decide +kernel
theorem dX10_findPrecedent_17 : decode cX10_findPrecedent 17 = .ok (.iload_n 2, 1) := by decide +kernel
theorem dX10_findPrecedent_18 : decode cX10_findPrecedent 18 = .ok (.ifCond .ge 7, 3) := by decide +kernel
theorem dX10_findPrecedent_21 : decode cX10_findPrecedent 21 = .ok (.iconst 2, 1) := by decide +kernel
theorem dX10_findPrecedent_22 : decode cX10_findPrecedent 22 = .ok (.goto 4, 3) := by decide +kernel
theorem dX10_findPrecedent_25 : decode cX10_findPrecedent 25 = .ok (.iconst 0, 1) := by decide +kernel
theorem dX10_findPrecedent_26 : decode cX10_findPrecedent 26 = .ok (.invokevirtual 135, 3) := by decide +kernel
theorem dX10_findPrecedent_29 : decode cX10_findPrecedent 29 = .ok (.ifCond .eq 7, 3) := by decide +kernel
theorem dX10_findPrecedent_32 : decode cX10_findPrecedent 32 = .ok (.iconst 0, 1) := by decide +kernel
theorem dX10_findPrecedent_33 : decode cX10_findPrecedent 33 = .ok (.goto 4, 3) := by decide +kernel
theorem dX10_findPrecedent_36 : decode cX10_findPrecedent 36 = .ok (.iload_n 2, 1) := by decide +kernel
theorem dX10_findPrecedent_37 : decode cX10_findPrecedent 37 = .ok (.ireturn, 1) := by decide +kernel
theorem dX10_precedentCount_0 : decode cX10_precedentCount 0 = .ok (.aload_n 0, 1) := by decide +kernel
theorem dX10_precedentCount_1 : decode cX10_precedentCount 1 = .ok (.iconst 0, 1) := by decide +kernel
theorem dX10_precedentCount_2 : decode cX10_precedentCount 2 = .ok (.putfield 49, 3) := by decide +kernel
theorem dX10_precedentCount_5 : decode cX10_precedentCount 5 = .ok (.aload_n 0, 1) := by decide +kernel
theorem dX10_precedentCount_6 : decode cX10_precedentCount 6 = .ok (.getfield 7, 3) := by decide +kernel
theorem dX10_precedentCount_9 : decode cX10_precedentCount 9 = .ok (.iconst 1, 1) := by decide +kernel
theorem dX10_precedentCount_10 : decode cX10_precedentCount 10 = .ok (.iaload, 1) := by decide +kernel
theorem dX10_precedentCount_11 : decode cX10_precedentCount 11 = .ok (.ireturn, 1) := by decide +kernel
theorem dX10_isUnknown_0 : decode cX10_isUnknown 0 = .ok (.aload_n 0, 1) := by decide +kernel
theorem dX10_isUnknown_1 : decode cX10_isUnknown 1 = .ok (.iload_n 1, 1) := by decide +kernel
theorem dX10_isUnknown_2 : decode cX10_isUnknown 2 = .ok (.iconst 0, 1) := by decide +kernel
theorem dX10_isUnknown_3 : decode cX10_isUnknown 3 = .ok (.aload_n 0, 1) := by decide +kernel
theorem dX10_isUnknown_4 : decode cX10_isUnknown 4 = .ok (.getfield 7, 3) := by decide +kernel
theorem dX10_isUnknown_7 : decode cX10_isUnknown 7 = .ok (.iconst 1, 1) := by decide +kernel
theorem dX10_isUnknown_8 : decode cX10_isUnknown 8 = .ok (.iaload, 1) := by decide +kernel
theorem dX10_isUnknown_9 : decode cX10_isUnknown 9 = .ok (.iconst 1, 1) := by decide +kernel
theorem dX10_isUnknown_10 : decode cX10_isUnknown 10 = .ok (.isub, 1) := by decide +kernel
theorem dX10_isUnknown_11 : decode cX10_isUnknown 11 = .ok (.invokestatic 75, 3) := by decide +kernel
theorem dX10_isUnknown_14 : decode cX10_isUnknown 14 = .ok (.ifCond .eq 7, 3) := by decide +kernel
theorem dX10_isUnknown_17 : decode cX10_isUnknown 17 = .ok (.iconst 0, 1) := by decide +kernel
theorem dX10_isUnknown_18 : decode cX10_isUnknown 18 = .ok (.goto 4, 3) := by decide +kernel
theorem dX10_isUnknown_21 : decode cX10_isUnknown 21 = .ok (.iconst 1, 1) := by decide +kernel
theorem dX10_isUnknown_22 : decode cX10_isUnknown 22 = .ok (.invokevirtual 135, 3) := by decide +kernel
theorem dX10_isUnknown_25 : decode cX10_isUnknown 25 = .ok (.ireturn, 1) := by decide +kernel
theorem dX10_isAppealed_0 : decode cX10_isAppealed 0 = .ok (.aload_n 0, 1) := by decide +kernel
theorem dX10_isAppealed_1 : decode cX10_isAppealed 1 = .ok (.iload_n 1, 1) := by decide +kernel
theorem dX10_isAppealed_2 : decode cX10_isAppealed 2 = .ok (.invokevirtual 219, 3) := by decide +kernel
theorem dX10_isAppealed_5 : decode cX10_isAppealed 5 = .ok (.ifCond .ne 21, 3) := by decide +kernel
theorem dX10_isAppealed_8 : decode cX10_isAppealed 8 = .ok (.aload_n 0, 1) := by decide +kernel
theorem dX10_isAppealed_9 : decode cX10_isAppealed 9 = .ok (.getfield 7, 3) := by decide +kernel
theorem dX10_isAppealed_12 : decode cX10_isAppealed 12 = .ok (.iload_n 1, 1) := by decide +kernel
theorem dX10_isAppealed_13 : decode cX10_isAppealed 13 = .ok (.invokestatic 207, 3) := by decide +kernel
theorem dX10_isAppealed_16 : decode cX10_isAppealed 16 = .ok (.iconst 2, 1) := by decide +kernel
theorem dX10_isAppealed_17 : decode cX10_isAppealed 17 = .ok (.iadd, 1) := by decide +kernel
theorem dX10_isAppealed_18 : decode cX10_isAppealed 18 = .ok (.iaload, 1) := by decide +kernel
theorem dX10_isAppealed_19 : decode cX10_isAppealed 19 = .ok (.ifCond .le 7, 3) := by decide +kernel
theorem dX10_isAppealed_22 : decode cX10_isAppealed 22 = .ok (.iconst 1, 1) := by decide +kernel
theorem dX10_isAppealed_23 : decode cX10_isAppealed 23 = .ok (.goto 4, 3) := by decide +kernel
theorem dX10_isAppealed_26 : decode cX10_isAppealed 26 = .ok (.iconst 0, 1) := by decide +kernel
theorem dX10_isAppealed_27 : decode cX10_isAppealed 27 = .ok (.ireturn, 1) := by decide +kernel
theorem dX10_casesOn_0 : decode cX10_casesOn 0 = .ok (.aload_n 0, 1) := by decide +kernel
theorem dX10_casesOn_1 : decode cX10_casesOn 1 = .ok (.iload_n 1, 1) := by decide +kernel
theorem dX10_casesOn_2 : decode cX10_casesOn 2 = .ok (.invokevirtual 219, 3) := by decide +kernel
theorem dX10_casesOn_5 : decode cX10_casesOn 5 = .ok (.ifCond .eq 5, 3) := by decide +kernel
theorem dX10_casesOn_8 : decode cX10_casesOn 8 = .ok (.iconst 0, 1) := by decide +kernel
theorem dX10_casesOn_9 : decode cX10_casesOn 9 = .ok (.ireturn, 1) := by decide +kernel
theorem dX10_casesOn_10 : decode cX10_casesOn 10 = .ok (.iconst 0, 1) := by decide +kernel
theorem dX10_casesOn_11 : decode cX10_casesOn 11 = .ok (.istore_n 2, 1) := by decide +kernel
theorem dX10_casesOn_12 : decode cX10_casesOn 12 = .ok (.iconst 0, 1) := by decide +kernel
theorem dX10_casesOn_13 : decode cX10_casesOn 13 = .ok (.istore_n 3, 1) := by decide +kernel
theorem dX10_casesOn_14 : decode cX10_casesOn 14 = .ok (.iload_n 3, 1) := by decide +kernel
theorem dX10_casesOn_15 : decode cX10_casesOn 15 = .ok (.aload_n 0, 1) := by decide +kernel
theorem dX10_casesOn_16 : decode cX10_casesOn 16 = .ok (.getfield 7, 3) := by decide +kernel
theorem dX10_casesOn_19 : decode cX10_casesOn 19 = .ok (.iconst 0, 1) := by decide +kernel
theorem dX10_casesOn_20 : decode cX10_casesOn 20 = .ok (.iaload, 1) := by decide +kernel
theorem dX10_casesOn_21 : decode cX10_casesOn 21 = .ok (.if_icmp .ge 36, 3) := by decide +kernel
theorem dX10_casesOn_24 : decode cX10_casesOn 24 = .ok (.iload_n 2, 1) := by decide +kernel
theorem dX10_casesOn_25 : decode cX10_casesOn 25 = .ok (.aload_n 0, 1) := by decide +kernel
theorem dX10_casesOn_26 : decode cX10_casesOn 26 = .ok (.iload_n 3, 1) := by decide +kernel
theorem dX10_casesOn_27 : decode cX10_casesOn 27 = .ok (.iconst 1, 1) := by decide +kernel
theorem dX10_casesOn_28 : decode cX10_casesOn 28 = .ok (.invokevirtual 149, 3) := by decide +kernel
theorem dX10_casesOn_31 : decode cX10_casesOn 31 = .ok (.ifCond .le 17, 3) := by decide +kernel
theorem dX10_casesOn_34 : decode cX10_casesOn 34 = .ok (.aload_n 0, 1) := by decide +kernel
theorem dX10_casesOn_35 : decode cX10_casesOn 35 = .ok (.iload_n 3, 1) := by decide +kernel
theorem dX10_casesOn_36 : decode cX10_casesOn 36 = .ok (.iconst 2, 1) := by decide +kernel
theorem dX10_casesOn_37 : decode cX10_casesOn 37 = .ok (.invokevirtual 149, 3) := by decide +kernel
theorem dX10_casesOn_40 : decode cX10_casesOn 40 = .ok (.iload_n 1, 1) := by decide +kernel
theorem dX10_casesOn_41 : decode cX10_casesOn 41 = .ok (.if_icmp .ne 7, 3) := by decide +kernel
theorem dX10_casesOn_44 : decode cX10_casesOn 44 = .ok (.iconst 1, 1) := by decide +kernel
theorem dX10_casesOn_45 : decode cX10_casesOn 45 = .ok (.goto 4, 3) := by decide +kernel
theorem dX10_casesOn_48 : decode cX10_casesOn 48 = .ok (.iconst 0, 1) := by decide +kernel
theorem dX10_casesOn_49 : decode cX10_casesOn 49 = .ok (.iadd, 1) := by decide +kernel
theorem dX10_casesOn_50 : decode cX10_casesOn 50 = .ok (.istore_n 2, 1) := by decide +kernel
theorem dX10_casesOn_51 : decode cX10_casesOn 51 = .ok (.iinc 3 1, 3) := by decide +kernel
theorem dX10_casesOn_54 : decode cX10_casesOn 54 = .ok (.goto (-40), 3) := by decide +kernel
theorem dX10_casesOn_57 : decode cX10_casesOn 57 = .ok (.iload_n 2, 1) := by decide +kernel
theorem dX10_casesOn_58 : decode cX10_casesOn 58 = .ok (.ireturn, 1) := by decide +kernel
theorem dX10_with_0 : decode cX10_with 0 = .ok (.iconst 0, 1) := by decide +kernel
theorem dX10_with_1 : decode cX10_with 1 = .ok (.istore_n 3, 1) := by decide +kernel
theorem dX10_with_2 : decode cX10_with 2 = .ok (.iconst 0, 1) := by decide +kernel
theorem dX10_with_3 : decode cX10_with 3 = .ok (.istore 4, 2) := by decide +kernel
theorem dX10_with_5 : decode cX10_with 5 = .ok (.iload 4, 2) := by decide +kernel
theorem dX10_with_7 : decode cX10_with 7 = .ok (.aload_n 0, 1) := by decide +kernel
theorem dX10_with_8 : decode cX10_with 8 = .ok (.getfield 7, 3) := by decide +kernel
theorem dX10_with_11 : decode cX10_with 11 = .ok (.iconst 0, 1) := by decide +kernel
theorem dX10_with_12 : decode cX10_with 12 = .ok (.iaload, 1) := by decide +kernel
theorem dX10_with_13 : decode cX10_with 13 = .ok (.if_icmp .ge 32, 3) := by decide +kernel
theorem dX10_with_16 : decode cX10_with 16 = .ok (.iload_n 3, 1) := by decide +kernel
theorem dX10_with_17 : decode cX10_with 17 = .ok (.aload_n 0, 1) := by decide +kernel
theorem dX10_with_18 : decode cX10_with 18 = .ok (.iload 4, 2) := by decide +kernel
theorem dX10_with_20 : decode cX10_with 20 = .ok (.iconst 1, 1) := by decide +kernel
theorem dX10_with_21 : decode cX10_with 21 = .ok (.invokevirtual 149, 3) := by decide +kernel
theorem dX10_with_24 : decode cX10_with 24 = .ok (.iload_n 1, 1) := by decide +kernel
theorem dX10_with_25 : decode cX10_with 25 = .ok (.iload_n 2, 1) := by decide +kernel
theorem dX10_with_26 : decode cX10_with 26 = .ok (.invokestatic 75, 3) := by decide +kernel
theorem dX10_with_29 : decode cX10_with 29 = .ok (.ifCond .eq 7, 3) := by decide +kernel
theorem dX10_with_32 : decode cX10_with 32 = .ok (.iconst 1, 1) := by decide +kernel
theorem dX10_with_33 : decode cX10_with 33 = .ok (.goto 4, 3) := by decide +kernel
theorem dX10_with_36 : decode cX10_with 36 = .ok (.iconst 0, 1) := by decide +kernel
theorem dX10_with_37 : decode cX10_with 37 = .ok (.iadd, 1) := by decide +kernel
theorem dX10_with_38 : decode cX10_with 38 = .ok (.istore_n 3, 1) := by decide +kernel
theorem dX10_with_39 : decode cX10_with 39 = .ok (.iinc 4 1, 3) := by decide +kernel
theorem dX10_with_42 : decode cX10_with 42 = .ok (.goto (-37), 3) := by decide +kernel
theorem dX10_with_45 : decode cX10_with 45 = .ok (.iload_n 3, 1) := by decide +kernel
theorem dX10_with_46 : decode cX10_with 46 = .ok (.ireturn, 1) := by decide +kernel
theorem dX10_decidedCount_0 : decode cX10_decidedCount 0 = .ok (.aload_n 0, 1) := by decide +kernel
theorem dX10_decidedCount_1 : decode cX10_decidedCount 1 = .ok (.iconst 0, 1) := by decide +kernel
theorem dX10_decidedCount_2 : decode cX10_decidedCount 2 = .ok (.putfield 49, 3) := by decide +kernel
theorem dX10_decidedCount_5 : decode cX10_decidedCount 5 = .ok (.aload_n 0, 1) := by decide +kernel
theorem dX10_decidedCount_6 : decode cX10_decidedCount 6 = .ok (.iconst 1, 1) := by decide +kernel
theorem dX10_decidedCount_7 : decode cX10_decidedCount 7 = .ok (.iconst 2, 1) := by decide +kernel
theorem dX10_decidedCount_8 : decode cX10_decidedCount 8 = .ok (.invokevirtual 222, 3) := by decide +kernel
theorem dX10_decidedCount_11 : decode cX10_decidedCount 11 = .ok (.ireturn, 1) := by decide +kernel
theorem dX10_tangledCount_0 : decode cX10_tangledCount 0 = .ok (.aload_n 0, 1) := by decide +kernel
theorem dX10_tangledCount_1 : decode cX10_tangledCount 1 = .ok (.iconst 0, 1) := by decide +kernel
theorem dX10_tangledCount_2 : decode cX10_tangledCount 2 = .ok (.putfield 49, 3) := by decide +kernel
theorem dX10_tangledCount_5 : decode cX10_tangledCount 5 = .ok (.aload_n 0, 1) := by decide +kernel
theorem dX10_tangledCount_6 : decode cX10_tangledCount 6 = .ok (.iconst 1, 1) := by decide +kernel
theorem dX10_tangledCount_7 : decode cX10_tangledCount 7 = .ok (.iconst 1, 1) := by decide +kernel
theorem dX10_tangledCount_8 : decode cX10_tangledCount 8 = .ok (.invokevirtual 222, 3) := by decide +kernel
theorem dX10_tangledCount_11 : decode cX10_tangledCount 11 = .ok (.ireturn, 1) := by decide +kernel
theorem dX10_meanLength_0 : decode cX10_meanLength 0 = .ok (.aload_n 0, 1) := by decide +kernel
theorem dX10_meanLength_1 : decode cX10_meanLength 1 = .ok (.aload_n 0, 1) := by decide +kernel
theorem dX10_meanLength_2 : decode cX10_meanLength 2 = .ok (.getfield 7, 3) := by decide +kernel
theorem dX10_meanLength_5 : decode cX10_meanLength 5 = .ok (.iconst 0, 1) := by decide +kernel
theorem dX10_meanLength_6 : decode cX10_meanLength 6 = .ok (.iaload, 1) := by decide +kernel
theorem dX10_meanLength_7 : decode cX10_meanLength 7 = .ok (.ifCond .ne 7, 3) := by decide +kernel
theorem dX10_meanLength_10 : decode cX10_meanLength 10 = .ok (.iconst 1, 1) := by decide +kernel
theorem dX10_meanLength_11 : decode cX10_meanLength 11 = .ok (.goto 4, 3) := by decide +kernel
theorem dX10_meanLength_14 : decode cX10_meanLength 14 = .ok (.iconst 0, 1) := by decide +kernel
theorem dX10_meanLength_15 : decode cX10_meanLength 15 = .ok (.invokevirtual 135, 3) := by decide +kernel
theorem dX10_meanLength_18 : decode cX10_meanLength 18 = .ok (.ifCond .eq 5, 3) := by decide +kernel
theorem dX10_meanLength_21 : decode cX10_meanLength 21 = .ok (.dconst 0, 1) := by decide +kernel
theorem dX10_meanLength_22 : decode cX10_meanLength 22 = .ok (.dreturn, 1) := by decide +kernel
theorem dX10_meanLength_23 : decode cX10_meanLength 23 = .ok (.iconst 0, 1) := by decide +kernel
theorem dX10_meanLength_24 : decode cX10_meanLength 24 = .ok (.istore_n 1, 1) := by decide +kernel
theorem dX10_meanLength_25 : decode cX10_meanLength 25 = .ok (.iconst 0, 1) := by decide +kernel
theorem dX10_meanLength_26 : decode cX10_meanLength 26 = .ok (.istore_n 2, 1) := by decide +kernel
theorem dX10_meanLength_27 : decode cX10_meanLength 27 = .ok (.iload_n 2, 1) := by decide +kernel
theorem dX10_meanLength_28 : decode cX10_meanLength 28 = .ok (.aload_n 0, 1) := by decide +kernel
theorem dX10_meanLength_29 : decode cX10_meanLength 29 = .ok (.getfield 7, 3) := by decide +kernel
theorem dX10_meanLength_32 : decode cX10_meanLength 32 = .ok (.iconst 0, 1) := by decide +kernel
theorem dX10_meanLength_33 : decode cX10_meanLength 33 = .ok (.iaload, 1) := by decide +kernel
theorem dX10_meanLength_34 : decode cX10_meanLength 34 = .ok (.if_icmp .ge 18, 3) := by decide +kernel
theorem dX10_meanLength_37 : decode cX10_meanLength 37 = .ok (.iload_n 1, 1) := by decide +kernel
theorem dX10_meanLength_38 : decode cX10_meanLength 38 = .ok (.aload_n 0, 1) := by decide +kernel
theorem dX10_meanLength_39 : decode cX10_meanLength 39 = .ok (.iload_n 2, 1) := by decide +kernel
theorem dX10_meanLength_40 : decode cX10_meanLength 40 = .ok (.iconst 0, 1) := by decide +kernel
theorem dX10_meanLength_41 : decode cX10_meanLength 41 = .ok (.invokevirtual 149, 3) := by decide +kernel
theorem dX10_meanLength_44 : decode cX10_meanLength 44 = .ok (.iadd, 1) := by decide +kernel
theorem dX10_meanLength_45 : decode cX10_meanLength 45 = .ok (.istore_n 1, 1) := by decide +kernel
theorem dX10_meanLength_46 : decode cX10_meanLength 46 = .ok (.iinc 2 1, 3) := by decide +kernel
theorem dX10_meanLength_49 : decode cX10_meanLength 49 = .ok (.goto (-22), 3) := by decide +kernel
theorem dX10_meanLength_52 : decode cX10_meanLength 52 = .ok (.iload_n 1, 1) := by decide +kernel
theorem dX10_meanLength_53 : decode cX10_meanLength 53 = .ok (.i2d, 1) := by decide +kernel
theorem dX10_meanLength_54 : decode cX10_meanLength 54 = .ok (.aload_n 0, 1) := by decide +kernel
theorem dX10_meanLength_55 : decode cX10_meanLength 55 = .ok (.getfield 7, 3) := by decide +kernel
theorem dX10_meanLength_58 : decode cX10_meanLength 58 = .ok (.iconst 0, 1) := by decide +kernel
theorem dX10_meanLength_59 : decode cX10_meanLength 59 = .ok (.iaload, 1) := by decide +kernel
theorem dX10_meanLength_60 : decode cX10_meanLength 60 = .ok (.i2d, 1) := by decide +kernel
theorem dX10_meanLength_61 : decode cX10_meanLength 61 = .ok (.ddiv, 1) := by decide +kernel
theorem dX10_meanLength_62 : decode cX10_meanLength 62 = .ok (.dreturn, 1) := by decide +kernel
theorem dX10_freedShare_0 : decode cX10_freedShare 0 = .ok (.aload_n 0, 1) := by decide +kernel
theorem dX10_freedShare_1 : decode cX10_freedShare 1 = .ok (.aload_n 0, 1) := by decide +kernel
theorem dX10_freedShare_2 : decode cX10_freedShare 2 = .ok (.iconst 1, 1) := by decide +kernel
theorem dX10_freedShare_3 : decode cX10_freedShare 3 = .ok (.iconst 2, 1) := by decide +kernel
theorem dX10_freedShare_4 : decode cX10_freedShare 4 = .ok (.invokevirtual 222, 3) := by decide +kernel
theorem dX10_freedShare_7 : decode cX10_freedShare 7 = .ok (.ifCond .ne 7, 3) := by decide +kernel
theorem dX10_freedShare_10 : decode cX10_freedShare 10 = .ok (.iconst 1, 1) := by decide +kernel
theorem dX10_freedShare_11 : decode cX10_freedShare 11 = .ok (.goto 4, 3) := by decide +kernel
theorem dX10_freedShare_14 : decode cX10_freedShare 14 = .ok (.iconst 0, 1) := by decide +kernel
theorem dX10_freedShare_15 : decode cX10_freedShare 15 = .ok (.invokevirtual 135, 3) := by decide +kernel
theorem dX10_freedShare_18 : decode cX10_freedShare 18 = .ok (.ifCond .eq 7, 3) := by decide +kernel
theorem dX10_freedShare_21 : decode cX10_freedShare 21 = .ok (.fconst 0, 1) := by decide +kernel
theorem dX10_freedShare_22 : decode cX10_freedShare 22 = .ok (.goto 18, 3) := by decide +kernel
theorem dX10_freedShare_25 : decode cX10_freedShare 25 = .ok (.aload_n 0, 1) := by decide +kernel
theorem dX10_freedShare_26 : decode cX10_freedShare 26 = .ok (.iconst 2, 1) := by decide +kernel
theorem dX10_freedShare_27 : decode cX10_freedShare 27 = .ok (.iconst 2, 1) := by decide +kernel
theorem dX10_freedShare_28 : decode cX10_freedShare 28 = .ok (.invokevirtual 222, 3) := by decide +kernel
theorem dX10_freedShare_31 : decode cX10_freedShare 31 = .ok (.i2f, 1) := by decide +kernel
theorem dX10_freedShare_32 : decode cX10_freedShare 32 = .ok (.aload_n 0, 1) := by decide +kernel
theorem dX10_freedShare_33 : decode cX10_freedShare 33 = .ok (.iconst 1, 1) := by decide +kernel
theorem dX10_freedShare_34 : decode cX10_freedShare 34 = .ok (.iconst 2, 1) := by decide +kernel
theorem dX10_freedShare_35 : decode cX10_freedShare 35 = .ok (.invokevirtual 222, 3) := by decide +kernel
theorem dX10_freedShare_38 : decode cX10_freedShare 38 = .ok (.i2f, 1) := by decide +kernel
theorem dX10_freedShare_39 : decode cX10_freedShare 39 = .ok (.fdiv, 1) := by decide +kernel
theorem dX10_freedShare_40 : decode cX10_freedShare 40 = .ok (.freturn, 1) := by decide +kernel
theorem dX10_isConsistent_0 : decode cX10_isConsistent 0 = .ok (.aload_n 0, 1) := by decide +kernel
theorem dX10_isConsistent_1 : decode cX10_isConsistent 1 = .ok (.iconst 0, 1) := by decide +kernel
theorem dX10_isConsistent_2 : decode cX10_isConsistent 2 = .ok (.putfield 49, 3) := by decide +kernel
theorem dX10_isConsistent_5 : decode cX10_isConsistent 5 = .ok (.iconst 1, 1) := by decide +kernel
theorem dX10_isConsistent_6 : decode cX10_isConsistent 6 = .ok (.ireturn, 1) := by decide +kernel
theorem dX10_feed_0 : decode cX10_feed 0 = .ok (.aload_n 0, 1) := by decide +kernel
theorem dX10_feed_1 : decode cX10_feed 1 = .ok (.aload_n 0, 1) := by decide +kernel
theorem dX10_feed_2 : decode cX10_feed 2 = .ok (.getfield 225, 3) := by decide +kernel
theorem dX10_feed_5 : decode cX10_feed 5 = .ok (.bipush 60, 2) := by decide +kernel
theorem dX10_feed_7 : decode cX10_feed 7 = .ok (.if_icmp .ne 7, 3) := by decide +kernel
theorem dX10_feed_10 : decode cX10_feed 10 = .ok (.iconst 1, 1) := by decide +kernel
theorem dX10_feed_11 : decode cX10_feed 11 = .ok (.goto 4, 3) := by decide +kernel
theorem dX10_feed_14 : decode cX10_feed 14 = .ok (.iconst 0, 1) := by decide +kernel
theorem dX10_feed_15 : decode cX10_feed 15 = .ok (.invokevirtual 135, 3) := by decide +kernel
theorem dX10_feed_18 : decode cX10_feed 18 = .ok (.ifCond .eq 5, 3) := by decide +kernel
theorem dX10_feed_21 : decode cX10_feed 21 = .ok (.iconst 0, 1) := by decide +kernel
theorem dX10_feed_22 : decode cX10_feed 22 = .ok (.ireturn, 1) := by decide +kernel
theorem dX10_feed_23 : decode cX10_feed 23 = .ok (.aload_n 0, 1) := by decide +kernel
theorem dX10_feed_24 : decode cX10_feed 24 = .ok (.getfield 22, 3) := by decide +kernel
theorem dX10_feed_27 : decode cX10_feed 27 = .ok (.aload_n 0, 1) := by decide +kernel
theorem dX10_feed_28 : decode cX10_feed 28 = .ok (.getfield 225, 3) := by decide +kernel
theorem dX10_feed_31 : decode cX10_feed 31 = .ok (.iload_n 1, 1) := by decide +kernel
theorem dX10_feed_32 : decode cX10_feed 32 = .ok (.iastore, 1) := by decide +kernel
theorem dX10_feed_33 : decode cX10_feed 33 = .ok (.aload_n 0, 1) := by decide +kernel
theorem dX10_feed_34 : decode cX10_feed 34 = .ok (.dup, 1) := by decide +kernel
theorem dX10_feed_35 : decode cX10_feed 35 = .ok (.getfield 225, 3) := by decide +kernel
theorem dX10_feed_38 : decode cX10_feed 38 = .ok (.iconst 1, 1) := by decide +kernel
theorem dX10_feed_39 : decode cX10_feed 39 = .ok (.iadd, 1) := by decide +kernel
theorem dX10_feed_40 : decode cX10_feed 40 = .ok (.putfield 225, 3) := by decide +kernel
theorem dX10_feed_43 : decode cX10_feed 43 = .ok (.aload_n 0, 1) := by decide +kernel
theorem dX10_feed_44 : decode cX10_feed 44 = .ok (.getfield 225, 3) := by decide +kernel
theorem dX10_feed_47 : decode cX10_feed 47 = .ok (.ireturn, 1) := by decide +kernel
theorem dX10_here_0 : decode cX10_here 0 = .ok (.aload_n 0, 1) := by decide +kernel
theorem dX10_here_1 : decode cX10_here 1 = .ok (.getfield 228, 3) := by decide +kernel
theorem dX10_here_4 : decode cX10_here 4 = .ok (.aload_n 0, 1) := by decide +kernel
theorem dX10_here_5 : decode cX10_here 5 = .ok (.getfield 225, 3) := by decide +kernel
theorem dX10_here_8 : decode cX10_here 8 = .ok (.if_icmp .ge 15, 3) := by decide +kernel
theorem dX10_here_11 : decode cX10_here 11 = .ok (.aload_n 0, 1) := by decide +kernel
theorem dX10_here_12 : decode cX10_here 12 = .ok (.getfield 22, 3) := by decide +kernel
theorem dX10_here_15 : decode cX10_here 15 = .ok (.aload_n 0, 1) := by decide +kernel
theorem dX10_here_16 : decode cX10_here 16 = .ok (.getfield 228, 3) := by decide +kernel
theorem dX10_here_19 : decode cX10_here 19 = .ok (.iaload, 1) := by decide +kernel
theorem dX10_here_20 : decode cX10_here 20 = .ok (.goto 4, 3) := by decide +kernel
theorem dX10_here_23 : decode cX10_here 23 = .ok (.iconst (-1), 1) := by decide +kernel
theorem dX10_here_24 : decode cX10_here 24 = .ok (.ireturn, 1) := by decide +kernel
theorem dX10_skips_0 : decode cX10_skips 0 = .ok (.aload_n 0, 1) := by decide +kernel
theorem dX10_skips_1 : decode cX10_skips 1 = .ok (.invokevirtual 231, 3) := by decide +kernel
theorem dX10_skips_4 : decode cX10_skips 4 = .ok (.iload_n 1, 1) := by decide +kernel
theorem dX10_skips_5 : decode cX10_skips 5 = .ok (.if_icmp .eq 5, 3) := by decide +kernel
theorem dX10_skips_8 : decode cX10_skips 8 = .ok (.iconst 0, 1) := by decide +kernel
theorem dX10_skips_9 : decode cX10_skips 9 = .ok (.ireturn, 1) := by decide +kernel
theorem dX10_skips_10 : decode cX10_skips 10 = .ok (.aload_n 0, 1) := by decide +kernel
theorem dX10_skips_11 : decode cX10_skips 11 = .ok (.dup, 1) := by decide +kernel
theorem dX10_skips_12 : decode cX10_skips 12 = .ok (.getfield 228, 3) := by decide +kernel
theorem dX10_skips_15 : decode cX10_skips 15 = .ok (.iconst 1, 1) := by decide +kernel
theorem dX10_skips_16 : decode cX10_skips 16 = .ok (.iadd, 1) := by decide +kernel
theorem dX10_skips_17 : decode cX10_skips 17 = .ok (.putfield 228, 3) := by decide +kernel
theorem dX10_skips_20 : decode cX10_skips 20 = .ok (.iconst 1, 1) := by decide +kernel
theorem dX10_skips_21 : decode cX10_skips 21 = .ok (.ireturn, 1) := by decide +kernel
theorem dX10_isWord_0 : decode cX10_isWord 0 = .ok (.aload_n 0, 1) := by decide +kernel
theorem dX10_isWord_1 : decode cX10_isWord 1 = .ok (.getfield 46, 3) := by decide +kernel
theorem dX10_isWord_4 : decode cX10_isWord 4 = .ok (.iconst 3, 1) := by decide +kernel
theorem dX10_isWord_5 : decode cX10_isWord 5 = .ok (.aload_n 0, 1) := by decide +kernel
theorem dX10_isWord_6 : decode cX10_isWord 6 = .ok (.getfield 234, 3) := by decide +kernel
theorem dX10_isWord_9 : decode cX10_isWord 9 = .ok (.imul, 1) := by decide +kernel
theorem dX10_isWord_10 : decode cX10_isWord 10 = .ok (.iload_n 1, 1) := by decide +kernel
theorem dX10_isWord_11 : decode cX10_isWord 11 = .ok (.iastore, 1) := by decide +kernel
theorem dX10_isWord_12 : decode cX10_isWord 12 = .ok (.iconst 0, 1) := by decide +kernel
theorem dX10_isWord_13 : decode cX10_isWord 13 = .ok (.istore_n 3, 1) := by decide +kernel
theorem dX10_isWord_14 : decode cX10_isWord 14 = .ok (.iload_n 3, 1) := by decide +kernel
theorem dX10_isWord_15 : decode cX10_isWord 15 = .ok (.aload_n 2, 1) := by decide +kernel
theorem dX10_isWord_16 : decode cX10_isWord 16 = .ok (.invokevirtual 237, 3) := by decide +kernel
theorem dX10_isWord_19 : decode cX10_isWord 19 = .ok (.if_icmp .ge 23, 3) := by decide +kernel
theorem dX10_isWord_22 : decode cX10_isWord 22 = .ok (.aload_n 0, 1) := by decide +kernel
theorem dX10_isWord_23 : decode cX10_isWord 23 = .ok (.aload_n 2, 1) := by decide +kernel
theorem dX10_isWord_24 : decode cX10_isWord 24 = .ok (.iload_n 3, 1) := by decide +kernel
theorem dX10_isWord_25 : decode cX10_isWord 25 = .ok (.invokevirtual 241, 3) := by decide +kernel
theorem dX10_isWord_28 : decode cX10_isWord 28 = .ok (.invokevirtual 244, 3) := by decide +kernel
theorem dX10_isWord_31 : decode cX10_isWord 31 = .ok (.ifCond .ne 5, 3) := by decide +kernel
theorem dX10_isWord_34 : decode cX10_isWord 34 = .ok (.iconst 0, 1) := by decide +kernel
theorem dX10_isWord_35 : decode cX10_isWord 35 = .ok (.ireturn, 1) := by decide +kernel
theorem dX10_isWord_36 : decode cX10_isWord 36 = .ok (.iinc 3 1, 3) := by decide +kernel
theorem dX10_isWord_39 : decode cX10_isWord 39 = .ok (.goto (-25), 3) := by decide +kernel
theorem dX10_isWord_42 : decode cX10_isWord 42 = .ok (.iconst 1, 1) := by decide +kernel
theorem dX10_isWord_43 : decode cX10_isWord 43 = .ok (.ireturn, 1) := by decide +kernel
theorem dX10_figure_0 : decode cX10_figure 0 = .ok (.aload_n 0, 1) := by decide +kernel
theorem dX10_figure_1 : decode cX10_figure 1 = .ok (.bipush 32, 2) := by decide +kernel
theorem dX10_figure_3 : decode cX10_figure 3 = .ok (.invokevirtual 244, 3) := by decide +kernel
theorem dX10_figure_6 : decode cX10_figure 6 = .ok (.ifCond .eq 17, 3) := by decide +kernel
theorem dX10_figure_9 : decode cX10_figure 9 = .ok (.aload_n 0, 1) := by decide +kernel
theorem dX10_figure_10 : decode cX10_figure 10 = .ok (.invokevirtual 231, 3) := by decide +kernel
theorem dX10_figure_13 : decode cX10_figure 13 = .ok (.bipush 48, 2) := by decide +kernel
theorem dX10_figure_15 : decode cX10_figure 15 = .ok (.bipush 57, 2) := by decide +kernel
theorem dX10_figure_17 : decode cX10_figure 17 = .ok (.invokestatic 75, 3) := by decide +kernel
theorem dX10_figure_20 : decode cX10_figure 20 = .ok (.ifCond .ne 5, 3) := by decide +kernel
theorem dX10_figure_23 : decode cX10_figure 23 = .ok (.iconst 0, 1) := by decide +kernel
theorem dX10_figure_24 : decode cX10_figure 24 = .ok (.ireturn, 1) := by decide +kernel
theorem dX10_figure_25 : decode cX10_figure 25 = .ok (.aload_n 0, 1) := by decide +kernel
theorem dX10_figure_26 : decode cX10_figure 26 = .ok (.getfield 46, 3) := by decide +kernel
theorem dX10_figure_29 : decode cX10_figure 29 = .ok (.iload_n 1, 1) := by decide +kernel
theorem dX10_figure_30 : decode cX10_figure 30 = .ok (.aload_n 0, 1) := by decide +kernel
theorem dX10_figure_31 : decode cX10_figure 31 = .ok (.invokevirtual 231, 3) := by decide +kernel
theorem dX10_figure_34 : decode cX10_figure 34 = .ok (.bipush 48, 2) := by decide +kernel
theorem dX10_figure_36 : decode cX10_figure 36 = .ok (.isub, 1) := by decide +kernel
theorem dX10_figure_37 : decode cX10_figure 37 = .ok (.iastore, 1) := by decide +kernel
theorem dX10_figure_38 : decode cX10_figure 38 = .ok (.aload_n 0, 1) := by decide +kernel
theorem dX10_figure_39 : decode cX10_figure 39 = .ok (.dup, 1) := by decide +kernel
theorem dX10_figure_40 : decode cX10_figure 40 = .ok (.getfield 228, 3) := by decide +kernel
theorem dX10_figure_43 : decode cX10_figure 43 = .ok (.iconst 1, 1) := by decide +kernel
theorem dX10_figure_44 : decode cX10_figure 44 = .ok (.iadd, 1) := by decide +kernel
theorem dX10_figure_45 : decode cX10_figure 45 = .ok (.putfield 228, 3) := by decide +kernel
theorem dX10_figure_48 : decode cX10_figure 48 = .ok (.iconst 1, 1) := by decide +kernel
theorem dX10_figure_49 : decode cX10_figure 49 = .ok (.ireturn, 1) := by decide +kernel
theorem dX10_letterHere_0 : decode cX10_letterHere 0 = .ok (.aload_n 0, 1) := by decide +kernel
theorem dX10_letterHere_1 : decode cX10_letterHere 1 = .ok (.bipush 32, 2) := by decide +kernel
theorem dX10_letterHere_3 : decode cX10_letterHere 3 = .ok (.invokevirtual 244, 3) := by decide +kernel
theorem dX10_letterHere_6 : decode cX10_letterHere 6 = .ok (.ifCond .eq 13, 3) := by decide +kernel
theorem dX10_letterHere_9 : decode cX10_letterHere 9 = .ok (.aload_n 0, 1) := by decide +kernel
theorem dX10_letterHere_10 : decode cX10_letterHere 10 = .ok (.invokevirtual 231, 3) := by decide +kernel
theorem dX10_letterHere_13 : decode cX10_letterHere 13 = .ok (.invokestatic 152, 3) := by decide +kernel
theorem dX10_letterHere_16 : decode cX10_letterHere 16 = .ok (.ifCond .ne 5, 3) := by decide +kernel
theorem dX10_letterHere_19 : decode cX10_letterHere 19 = .ok (.iconst 0, 1) := by decide +kernel
theorem dX10_letterHere_20 : decode cX10_letterHere 20 = .ok (.ireturn, 1) := by decide +kernel
theorem dX10_letterHere_21 : decode cX10_letterHere 21 = .ok (.aload_n 0, 1) := by decide +kernel
theorem dX10_letterHere_22 : decode cX10_letterHere 22 = .ok (.getfield 46, 3) := by decide +kernel
theorem dX10_letterHere_25 : decode cX10_letterHere 25 = .ok (.iload_n 1, 1) := by decide +kernel
theorem dX10_letterHere_26 : decode cX10_letterHere 26 = .ok (.aload_n 0, 1) := by decide +kernel
theorem dX10_letterHere_27 : decode cX10_letterHere 27 = .ok (.invokevirtual 231, 3) := by decide +kernel
theorem dX10_letterHere_30 : decode cX10_letterHere 30 = .ok (.iastore, 1) := by decide +kernel
theorem dX10_letterHere_31 : decode cX10_letterHere 31 = .ok (.aload_n 0, 1) := by decide +kernel
theorem dX10_letterHere_32 : decode cX10_letterHere 32 = .ok (.dup, 1) := by decide +kernel
theorem dX10_letterHere_33 : decode cX10_letterHere 33 = .ok (.getfield 228, 3) := by decide +kernel
theorem dX10_letterHere_36 : decode cX10_letterHere 36 = .ok (.iconst 1, 1) := by decide +kernel
theorem dX10_letterHere_37 : decode cX10_letterHere 37 = .ok (.iadd, 1) := by decide +kernel
theorem dX10_letterHere_38 : decode cX10_letterHere 38 = .ok (.putfield 228, 3) := by decide +kernel
theorem dX10_letterHere_41 : decode cX10_letterHere 41 = .ok (.iconst 1, 1) := by decide +kernel
theorem dX10_letterHere_42 : decode cX10_letterHere 42 = .ok (.ireturn, 1) := by decide +kernel
theorem dX10_commandHere_0 : decode cX10_commandHere 0 = .ok (.iconst 3, 1) := by decide +kernel
theorem dX10_commandHere_1 : decode cX10_commandHere 1 = .ok (.aload_n 0, 1) := by decide +kernel
theorem dX10_commandHere_2 : decode cX10_commandHere 2 = .ok (.getfield 234, 3) := by decide +kernel
theorem dX10_commandHere_5 : decode cX10_commandHere 5 = .ok (.imul, 1) := by decide +kernel
theorem dX10_commandHere_6 : decode cX10_commandHere 6 = .ok (.iconst 1, 1) := by decide +kernel
theorem dX10_commandHere_7 : decode cX10_commandHere 7 = .ok (.iadd, 1) := by decide +kernel
theorem dX10_commandHere_8 : decode cX10_commandHere 8 = .ok (.istore_n 1, 1) := by decide +kernel
theorem dX10_commandHere_9 : decode cX10_commandHere 9 = .ok (.aload_n 0, 1) := by decide +kernel
theorem dX10_commandHere_10 : decode cX10_commandHere 10 = .ok (.bipush 111, 2) := by decide +kernel
theorem dX10_commandHere_12 : decode cX10_commandHere 12 = .ok (.invokevirtual 244, 3) := by decide +kernel
theorem dX10_commandHere_15 : decode cX10_commandHere 15 = .ok (.ifCond .eq 11, 3) := by decide +kernel
theorem dX10_commandHere_18 : decode cX10_commandHere 18 = .ok (.aload_n 0, 1) := by decide +kernel
theorem dX10_commandHere_19 : decode cX10_commandHere 19 = .ok (.iconst 0, 1) := by decide +kernel
theorem dX10_commandHere_20 : decode cX10_commandHere 20 = .ok (.ldc 247, 2) := by decide +kernel
theorem dX10_commandHere_22 : decode cX10_commandHere 22 = .ok (.invokevirtual 249, 3) := by decide +kernel
theorem dX10_commandHere_25 : decode cX10_commandHere 25 = .ok (.ireturn, 1) := by decide +kernel
theorem dX10_commandHere_26 : decode cX10_commandHere 26 = .ok (.aload_n 0, 1) := by decide +kernel
theorem dX10_commandHere_27 : decode cX10_commandHere 27 = .ok (.bipush 114, 2) := by decide +kernel
theorem dX10_commandHere_29 : decode cX10_commandHere 29 = .ok (.invokevirtual 244, 3) := by decide +kernel
theorem dX10_commandHere_32 : decode cX10_commandHere 32 = .ok (.ifCond .eq 27, 3) := by decide +kernel
theorem dX10_commandHere_35 : decode cX10_commandHere 35 = .ok (.aload_n 0, 1) := by decide +kernel
theorem dX10_commandHere_36 : decode cX10_commandHere 36 = .ok (.iconst 4, 1) := by decide +kernel
theorem dX10_commandHere_37 : decode cX10_commandHere 37 = .ok (.ldc 253, 2) := by decide +kernel
theorem dX10_commandHere_39 : decode cX10_commandHere 39 = .ok (.invokevirtual 249, 3) := by decide +kernel
theorem dX10_commandHere_42 : decode cX10_commandHere 42 = .ok (.ifCond .eq 15, 3) := by decide +kernel
theorem dX10_commandHere_45 : decode cX10_commandHere 45 = .ok (.aload_n 0, 1) := by decide +kernel
theorem dX10_commandHere_46 : decode cX10_commandHere 46 = .ok (.iload_n 1, 1) := by decide +kernel
theorem dX10_commandHere_47 : decode cX10_commandHere 47 = .ok (.invokevirtual 255, 3) := by decide +kernel
theorem dX10_commandHere_50 : decode cX10_commandHere 50 = .ok (.ifCond .eq 7, 3) := by decide +kernel
theorem dX10_commandHere_53 : decode cX10_commandHere 53 = .ok (.iconst 1, 1) := by decide +kernel
theorem dX10_commandHere_54 : decode cX10_commandHere 54 = .ok (.goto 4, 3) := by decide +kernel
theorem dX10_commandHere_57 : decode cX10_commandHere 57 = .ok (.iconst 0, 1) := by decide +kernel
theorem dX10_commandHere_58 : decode cX10_commandHere 58 = .ok (.ireturn, 1) := by decide +kernel
theorem dX10_commandHere_59 : decode cX10_commandHere 59 = .ok (.aload_n 0, 1) := by decide +kernel
theorem dX10_commandHere_60 : decode cX10_commandHere 60 = .ok (.bipush 100, 2) := by decide +kernel
theorem dX10_commandHere_62 : decode cX10_commandHere 62 = .ok (.invokevirtual 244, 3) := by decide +kernel
theorem dX10_commandHere_65 : decode cX10_commandHere 65 = .ok (.ifCond .eq 28, 3) := by decide +kernel
theorem dX10_commandHere_68 : decode cX10_commandHere 68 = .ok (.aload_n 0, 1) := by decide +kernel
theorem dX10_commandHere_69 : decode cX10_commandHere 69 = .ok (.iconst 5, 1) := by decide +kernel
theorem dX10_commandHere_70 : decode cX10_commandHere 70 = .ok (.ldc_w 258, 3) := by decide +kernel
theorem dX10_commandHere_73 : decode cX10_commandHere 73 = .ok (.invokevirtual 249, 3) := by decide +kernel
theorem dX10_commandHere_76 : decode cX10_commandHere 76 = .ok (.ifCond .eq 15, 3) := by decide +kernel
theorem dX10_commandHere_79 : decode cX10_commandHere 79 = .ok (.aload_n 0, 1) := by decide +kernel
theorem dX10_commandHere_80 : decode cX10_commandHere 80 = .ok (.iload_n 1, 1) := by decide +kernel
theorem dX10_commandHere_81 : decode cX10_commandHere 81 = .ok (.invokevirtual 255, 3) := by decide +kernel
theorem dX10_commandHere_84 : decode cX10_commandHere 84 = .ok (.ifCond .eq 7, 3) := by decide +kernel
theorem dX10_commandHere_87 : decode cX10_commandHere 87 = .ok (.iconst 1, 1) := by decide +kernel
theorem dX10_commandHere_88 : decode cX10_commandHere 88 = .ok (.goto 4, 3) := by decide +kernel
theorem dX10_commandHere_91 : decode cX10_commandHere 91 = .ok (.iconst 0, 1) := by decide +kernel
theorem dX10_commandHere_92 : decode cX10_commandHere 92 = .ok (.ireturn, 1) := by decide +kernel
theorem dX10_commandHere_93 : decode cX10_commandHere 93 = .ok (.aload_n 0, 1) := by decide +kernel
theorem dX10_commandHere_94 : decode cX10_commandHere 94 = .ok (.bipush 97, 2) := by decide +kernel
theorem dX10_commandHere_96 : decode cX10_commandHere 96 = .ok (.invokevirtual 244, 3) := by decide +kernel
theorem dX10_commandHere_99 : decode cX10_commandHere 99 = .ok (.ifCond .eq 29, 3) := by decide +kernel
theorem dX10_commandHere_102 : decode cX10_commandHere 102 = .ok (.aload_n 0, 1) := by decide +kernel
theorem dX10_commandHere_103 : decode cX10_commandHere 103 = .ok (.bipush 6, 2) := by decide +kernel
theorem dX10_commandHere_105 : decode cX10_commandHere 105 = .ok (.ldc_w 260, 3) := by decide +kernel
theorem dX10_commandHere_108 : decode cX10_commandHere 108 = .ok (.invokevirtual 249, 3) := by decide +kernel
theorem dX10_commandHere_111 : decode cX10_commandHere 111 = .ok (.ifCond .eq 15, 3) := by decide +kernel
theorem dX10_commandHere_114 : decode cX10_commandHere 114 = .ok (.aload_n 0, 1) := by decide +kernel
theorem dX10_commandHere_115 : decode cX10_commandHere 115 = .ok (.iload_n 1, 1) := by decide +kernel
theorem dX10_commandHere_116 : decode cX10_commandHere 116 = .ok (.invokevirtual 255, 3) := by decide +kernel
theorem dX10_commandHere_119 : decode cX10_commandHere 119 = .ok (.ifCond .eq 7, 3) := by decide +kernel
theorem dX10_commandHere_122 : decode cX10_commandHere 122 = .ok (.iconst 1, 1) := by decide +kernel
theorem dX10_commandHere_123 : decode cX10_commandHere 123 = .ok (.goto 4, 3) := by decide +kernel
theorem dX10_commandHere_126 : decode cX10_commandHere 126 = .ok (.iconst 0, 1) := by decide +kernel
theorem dX10_commandHere_127 : decode cX10_commandHere 127 = .ok (.ireturn, 1) := by decide +kernel
theorem dX10_commandHere_128 : decode cX10_commandHere 128 = .ok (.aload_n 0, 1) := by decide +kernel
theorem dX10_commandHere_129 : decode cX10_commandHere 129 = .ok (.bipush 99, 2) := by decide +kernel
theorem dX10_commandHere_131 : decode cX10_commandHere 131 = .ok (.invokevirtual 244, 3) := by decide +kernel
theorem dX10_commandHere_134 : decode cX10_commandHere 134 = .ok (.ifCond .ne 5, 3) := by decide +kernel
theorem dX10_commandHere_137 : decode cX10_commandHere 137 = .ok (.iconst 0, 1) := by decide +kernel
theorem dX10_commandHere_138 : decode cX10_commandHere 138 = .ok (.ireturn, 1) := by decide +kernel
theorem dX10_commandHere_139 : decode cX10_commandHere 139 = .ok (.aload_n 0, 1) := by decide +kernel
theorem dX10_commandHere_140 : decode cX10_commandHere 140 = .ok (.bipush 114, 2) := by decide +kernel
theorem dX10_commandHere_142 : decode cX10_commandHere 142 = .ok (.invokevirtual 244, 3) := by decide +kernel
theorem dX10_commandHere_145 : decode cX10_commandHere 145 = .ok (.ifCond .eq 38, 3) := by decide +kernel
theorem dX10_commandHere_148 : decode cX10_commandHere 148 = .ok (.aload_n 0, 1) := by decide +kernel
theorem dX10_commandHere_149 : decode cX10_commandHere 149 = .ok (.iconst 1, 1) := by decide +kernel
theorem dX10_commandHere_150 : decode cX10_commandHere 150 = .ok (.ldc_w 262, 3) := by decide +kernel
theorem dX10_commandHere_153 : decode cX10_commandHere 153 = .ok (.invokevirtual 249, 3) := by decide +kernel
theorem dX10_commandHere_156 : decode cX10_commandHere 156 = .ok (.ifCond .eq 25, 3) := by decide +kernel
theorem dX10_commandHere_159 : decode cX10_commandHere 159 = .ok (.aload_n 0, 1) := by decide +kernel
theorem dX10_commandHere_160 : decode cX10_commandHere 160 = .ok (.iload_n 1, 1) := by decide +kernel
theorem dX10_commandHere_161 : decode cX10_commandHere 161 = .ok (.invokevirtual 255, 3) := by decide +kernel
theorem dX10_commandHere_164 : decode cX10_commandHere 164 = .ok (.ifCond .eq 17, 3) := by decide +kernel
theorem dX10_commandHere_167 : decode cX10_commandHere 167 = .ok (.aload_n 0, 1) := by decide +kernel
theorem dX10_commandHere_168 : decode cX10_commandHere 168 = .ok (.iload_n 1, 1) := by decide +kernel
theorem dX10_commandHere_169 : decode cX10_commandHere 169 = .ok (.iconst 1, 1) := by decide +kernel
theorem dX10_commandHere_170 : decode cX10_commandHere 170 = .ok (.iadd, 1) := by decide +kernel
theorem dX10_commandHere_171 : decode cX10_commandHere 171 = .ok (.invokevirtual 264, 3) := by decide +kernel
theorem dX10_commandHere_174 : decode cX10_commandHere 174 = .ok (.ifCond .eq 7, 3) := by decide +kernel
theorem dX10_commandHere_177 : decode cX10_commandHere 177 = .ok (.iconst 1, 1) := by decide +kernel
theorem dX10_commandHere_178 : decode cX10_commandHere 178 = .ok (.goto 4, 3) := by decide +kernel
theorem dX10_commandHere_181 : decode cX10_commandHere 181 = .ok (.iconst 0, 1) := by decide +kernel
theorem dX10_commandHere_182 : decode cX10_commandHere 182 = .ok (.ireturn, 1) := by decide +kernel
theorem dX10_commandHere_183 : decode cX10_commandHere 183 = .ok (.aload_n 0, 1) := by decide +kernel
theorem dX10_commandHere_184 : decode cX10_commandHere 184 = .ok (.bipush 117, 2) := by decide +kernel
theorem dX10_commandHere_186 : decode cX10_commandHere 186 = .ok (.invokevirtual 244, 3) := by decide +kernel
theorem dX10_commandHere_189 : decode cX10_commandHere 189 = .ok (.ifCond .eq 30, 3) := by decide +kernel
theorem dX10_commandHere_192 : decode cX10_commandHere 192 = .ok (.aload_n 0, 1) := by decide +kernel
theorem dX10_commandHere_193 : decode cX10_commandHere 193 = .ok (.iconst 2, 1) := by decide +kernel
theorem dX10_commandHere_194 : decode cX10_commandHere 194 = .ok (.ldc_w 267, 3) := by decide +kernel
theorem dX10_commandHere_197 : decode cX10_commandHere 197 = .ok (.invokevirtual 249, 3) := by decide +kernel
theorem dX10_commandHere_200 : decode cX10_commandHere 200 = .ok (.ifCond .eq 15, 3) := by decide +kernel
theorem dX10_commandHere_203 : decode cX10_commandHere 203 = .ok (.aload_n 0, 1) := by decide +kernel
theorem dX10_commandHere_204 : decode cX10_commandHere 204 = .ok (.iload_n 1, 1) := by decide +kernel
theorem dX10_commandHere_205 : decode cX10_commandHere 205 = .ok (.invokevirtual 255, 3) := by decide +kernel
theorem dX10_commandHere_208 : decode cX10_commandHere 208 = .ok (.ifCond .eq 7, 3) := by decide +kernel
theorem dX10_commandHere_211 : decode cX10_commandHere 211 = .ok (.iconst 1, 1) := by decide +kernel
theorem dX10_commandHere_212 : decode cX10_commandHere 212 = .ok (.goto 31, 3) := by decide +kernel
theorem dX10_commandHere_215 : decode cX10_commandHere 215 = .ok (.iconst 0, 1) := by decide +kernel
theorem dX10_commandHere_216 : decode cX10_commandHere 216 = .ok (.goto 27, 3) := by decide +kernel
theorem dX10_commandHere_219 : decode cX10_commandHere 219 = .ok (.aload_n 0, 1) := by decide +kernel
theorem dX10_commandHere_220 : decode cX10_commandHere 220 = .ok (.iconst 3, 1) := by decide +kernel
theorem dX10_commandHere_221 : decode cX10_commandHere 221 = .ok (.ldc_w 269, 3) := by decide +kernel
theorem dX10_commandHere_224 : decode cX10_commandHere 224 = .ok (.invokevirtual 249, 3) := by decide +kernel
theorem dX10_commandHere_227 : decode cX10_commandHere 227 = .ok (.ifCond .eq 15, 3) := by decide +kernel
theorem dX10_commandHere_230 : decode cX10_commandHere 230 = .ok (.aload_n 0, 1) := by decide +kernel
theorem dX10_commandHere_231 : decode cX10_commandHere 231 = .ok (.iload_n 1, 1) := by decide +kernel
theorem dX10_commandHere_232 : decode cX10_commandHere 232 = .ok (.invokevirtual 255, 3) := by decide +kernel
theorem dX10_commandHere_235 : decode cX10_commandHere 235 = .ok (.ifCond .eq 7, 3) := by decide +kernel
theorem dX10_commandHere_238 : decode cX10_commandHere 238 = .ok (.iconst 1, 1) := by decide +kernel
theorem dX10_commandHere_239 : decode cX10_commandHere 239 = .ok (.goto 4, 3) := by decide +kernel
theorem dX10_commandHere_242 : decode cX10_commandHere 242 = .ok (.iconst 0, 1) := by decide +kernel
theorem dX10_commandHere_243 : decode cX10_commandHere 243 = .ok (.ireturn, 1) := by decide +kernel
theorem dX10_isText_0 : decode cX10_isText 0 = .ok (.aload_n 0, 1) := by decide +kernel
theorem dX10_isText_1 : decode cX10_isText 1 = .ok (.iconst 0, 1) := by decide +kernel
theorem dX10_isText_2 : decode cX10_isText 2 = .ok (.putfield 228, 3) := by decide +kernel
theorem dX10_isText_5 : decode cX10_isText 5 = .ok (.aload_n 0, 1) := by decide +kernel
theorem dX10_isText_6 : decode cX10_isText 6 = .ok (.iconst 0, 1) := by decide +kernel
theorem dX10_isText_7 : decode cX10_isText 7 = .ok (.putfield 234, 3) := by decide +kernel
theorem dX10_isText_10 : decode cX10_isText 10 = .ok (.aload_n 0, 1) := by decide +kernel
theorem dX10_isText_11 : decode cX10_isText 11 = .ok (.invokevirtual 271, 3) := by decide +kernel
theorem dX10_isText_14 : decode cX10_isText 14 = .ok (.ifCond .ne 5, 3) := by decide +kernel
theorem dX10_isText_17 : decode cX10_isText 17 = .ok (.iconst 0, 1) := by decide +kernel
theorem dX10_isText_18 : decode cX10_isText 18 = .ok (.ireturn, 1) := by decide +kernel
theorem dX10_isText_19 : decode cX10_isText 19 = .ok (.aload_n 0, 1) := by decide +kernel
theorem dX10_isText_20 : decode cX10_isText 20 = .ok (.dup, 1) := by decide +kernel
theorem dX10_isText_21 : decode cX10_isText 21 = .ok (.getfield 234, 3) := by decide +kernel
theorem dX10_isText_24 : decode cX10_isText 24 = .ok (.iconst 1, 1) := by decide +kernel
theorem dX10_isText_25 : decode cX10_isText 25 = .ok (.iadd, 1) := by decide +kernel
theorem dX10_isText_26 : decode cX10_isText 26 = .ok (.putfield 234, 3) := by decide +kernel
theorem dX10_isText_29 : decode cX10_isText 29 = .ok (.aload_n 0, 1) := by decide +kernel
theorem dX10_isText_30 : decode cX10_isText 30 = .ok (.bipush 59, 2) := by decide +kernel
theorem dX10_isText_32 : decode cX10_isText 32 = .ok (.invokevirtual 244, 3) := by decide +kernel
theorem dX10_isText_35 : decode cX10_isText 35 = .ok (.ifCond .ne (-25), 3) := by decide +kernel
theorem dX10_isText_38 : decode cX10_isText 38 = .ok (.aload_n 0, 1) := by decide +kernel
theorem dX10_isText_39 : decode cX10_isText 39 = .ok (.getfield 228, 3) := by decide +kernel
theorem dX10_isText_42 : decode cX10_isText 42 = .ok (.aload_n 0, 1) := by decide +kernel
theorem dX10_isText_43 : decode cX10_isText 43 = .ok (.getfield 225, 3) := by decide +kernel
theorem dX10_isText_46 : decode cX10_isText 46 = .ok (.if_icmp .ne 7, 3) := by decide +kernel
theorem dX10_isText_49 : decode cX10_isText 49 = .ok (.iconst 1, 1) := by decide +kernel
theorem dX10_isText_50 : decode cX10_isText 50 = .ok (.goto 4, 3) := by decide +kernel
theorem dX10_isText_53 : decode cX10_isText 53 = .ok (.iconst 0, 1) := by decide +kernel
theorem dX10_isText_54 : decode cX10_isText 54 = .ok (.ireturn, 1) := by decide +kernel
theorem dX10_carries_0 : decode cX10_carries 0 = .ok (.aload_n 0, 1) := by decide +kernel
theorem dX10_carries_1 : decode cX10_carries 1 = .ok (.getfield 46, 3) := by decide +kernel
theorem dX10_carries_4 : decode cX10_carries 4 = .ok (.iload_n 1, 1) := by decide +kernel
theorem dX10_carries_5 : decode cX10_carries 5 = .ok (.iconst 1, 1) := by decide +kernel
theorem dX10_carries_6 : decode cX10_carries 6 = .ok (.iadd, 1) := by decide +kernel
theorem dX10_carries_7 : decode cX10_carries 7 = .ok (.iaload, 1) := by decide +kernel
theorem dX10_carries_8 : decode cX10_carries 8 = .ok (.istore_n 2, 1) := by decide +kernel
theorem dX10_carries_9 : decode cX10_carries 9 = .ok (.aload_n 0, 1) := by decide +kernel
theorem dX10_carries_10 : decode cX10_carries 10 = .ok (.getfield 46, 3) := by decide +kernel
theorem dX10_carries_13 : decode cX10_carries 13 = .ok (.iload_n 1, 1) := by decide +kernel
theorem dX10_carries_14 : decode cX10_carries 14 = .ok (.iaload, 1) := by decide +kernel
theorem dX10_carries_15 : decode cX10_carries 15 = .ok (.tableswitch 89 0 5 #[37, 42, 57, 63, 69, 75], 37) := by decide +kernel
theorem dX10_carries_52 : decode cX10_carries 52 = .ok (.aload_n 0, 1) := by decide +kernel
theorem dX10_carries_53 : decode cX10_carries 53 = .ok (.invokevirtual 274, 3) := by decide +kernel
theorem dX10_carries_56 : decode cX10_carries 56 = .ok (.ireturn, 1) := by decide +kernel
theorem dX10_carries_57 : decode cX10_carries 57 = .ok (.aload_n 0, 1) := by decide +kernel
theorem dX10_carries_58 : decode cX10_carries 58 = .ok (.iload_n 2, 1) := by decide +kernel
theorem dX10_carries_59 : decode cX10_carries 59 = .ok (.aload_n 0, 1) := by decide +kernel
theorem dX10_carries_60 : decode cX10_carries 60 = .ok (.getfield 46, 3) := by decide +kernel
theorem dX10_carries_63 : decode cX10_carries 63 = .ok (.iload_n 1, 1) := by decide +kernel
theorem dX10_carries_64 : decode cX10_carries 64 = .ok (.iconst 2, 1) := by decide +kernel
theorem dX10_carries_65 : decode cX10_carries 65 = .ok (.iadd, 1) := by decide +kernel
theorem dX10_carries_66 : decode cX10_carries 66 = .ok (.iaload, 1) := by decide +kernel
theorem dX10_carries_67 : decode cX10_carries 67 = .ok (.i2c, 1) := by decide +kernel
theorem dX10_carries_68 : decode cX10_carries 68 = .ok (.invokevirtual 277, 3) := by decide +kernel
theorem dX10_carries_71 : decode cX10_carries 71 = .ok (.ireturn, 1) := by decide +kernel
theorem dX10_carries_72 : decode cX10_carries 72 = .ok (.aload_n 0, 1) := by decide +kernel
theorem dX10_carries_73 : decode cX10_carries 73 = .ok (.iload_n 2, 1) := by decide +kernel
theorem dX10_carries_74 : decode cX10_carries 74 = .ok (.invokevirtual 281, 3) := by decide +kernel
theorem dX10_carries_77 : decode cX10_carries 77 = .ok (.ireturn, 1) := by decide +kernel
theorem dX10_carries_78 : decode cX10_carries 78 = .ok (.aload_n 0, 1) := by decide +kernel
theorem dX10_carries_79 : decode cX10_carries 79 = .ok (.iload_n 2, 1) := by decide +kernel
theorem dX10_carries_80 : decode cX10_carries 80 = .ok (.invokevirtual 284, 3) := by decide +kernel
theorem dX10_carries_83 : decode cX10_carries 83 = .ok (.ireturn, 1) := by decide +kernel
theorem dX10_carries_84 : decode cX10_carries 84 = .ok (.aload_n 0, 1) := by decide +kernel
theorem dX10_carries_85 : decode cX10_carries 85 = .ok (.iload_n 2, 1) := by decide +kernel
theorem dX10_carries_86 : decode cX10_carries 86 = .ok (.invokevirtual 287, 3) := by decide +kernel
theorem dX10_carries_89 : decode cX10_carries 89 = .ok (.ireturn, 1) := by decide +kernel
theorem dX10_carries_90 : decode cX10_carries 90 = .ok (.aload_n 0, 1) := by decide +kernel
theorem dX10_carries_91 : decode cX10_carries 91 = .ok (.iload_n 2, 1) := by decide +kernel
theorem dX10_carries_92 : decode cX10_carries 92 = .ok (.invokevirtual 290, 3) := by decide +kernel
theorem dX10_carries_95 : decode cX10_carries 95 = .ok (.ifCond .eq 7, 3) := by decide +kernel
theorem dX10_carries_98 : decode cX10_carries 98 = .ok (.iconst 1, 1) := by decide +kernel
theorem dX10_carries_99 : decode cX10_carries 99 = .ok (.goto 4, 3) := by decide +kernel
theorem dX10_carries_102 : decode cX10_carries 102 = .ok (.iconst 0, 1) := by decide +kernel
theorem dX10_carries_103 : decode cX10_carries 103 = .ok (.ireturn, 1) := by decide +kernel
theorem dX10_carries_104 : decode cX10_carries 104 = .ok (.aload_n 0, 1) := by decide +kernel
theorem dX10_carries_105 : decode cX10_carries 105 = .ok (.iload_n 2, 1) := by decide +kernel
theorem dX10_carries_106 : decode cX10_carries 106 = .ok (.invokevirtual 293, 3) := by decide +kernel
theorem dX10_carries_109 : decode cX10_carries 109 = .ok (.ireturn, 1) := by decide +kernel
theorem dX10_deniesText_0 : decode cX10_deniesText 0 = .ok (.aload_n 0, 1) := by decide +kernel
theorem dX10_deniesText_1 : decode cX10_deniesText 1 = .ok (.getfield 52, 3) := by decide +kernel
theorem dX10_deniesText_4 : decode cX10_deniesText 4 = .ok (.ifCond .eq 10, 3) := by decide +kernel
theorem dX10_deniesText_7 : decode cX10_deniesText 7 = .ok (.aload_n 0, 1) := by decide +kernel
theorem dX10_deniesText_8 : decode cX10_deniesText 8 = .ok (.getfield 56, 3) := by decide +kernel
theorem dX10_deniesText_11 : decode cX10_deniesText 11 = .ok (.goto 5, 3) := by decide +kernel
theorem dX10_deniesText_14 : decode cX10_deniesText 14 = .ok (.bipush 8, 2) := by decide +kernel
theorem dX10_deniesText_16 : decode cX10_deniesText 16 = .ok (.istore_n 2, 1) := by decide +kernel
theorem dX10_deniesText_17 : decode cX10_deniesText 17 = .ok (.aload_n 0, 1) := by decide +kernel
theorem dX10_deniesText_18 : decode cX10_deniesText 18 = .ok (.iconst 2, 1) := by decide +kernel
theorem dX10_deniesText_19 : decode cX10_deniesText 19 = .ok (.bipush 7, 2) := by decide +kernel
theorem dX10_deniesText_21 : decode cX10_deniesText 21 = .ok (.iload_n 1, 1) := by decide +kernel
theorem dX10_deniesText_22 : decode cX10_deniesText 22 = .ok (.invokevirtual 141, 3) := by decide +kernel
theorem dX10_deniesText_25 : decode cX10_deniesText 25 = .ok (.pop, 1) := by decide +kernel
theorem dX10_deniesText_26 : decode cX10_deniesText 26 = .ok (.aload_n 0, 1) := by decide +kernel
theorem dX10_deniesText_27 : decode cX10_deniesText 27 = .ok (.iload_n 2, 1) := by decide +kernel
theorem dX10_deniesText_28 : decode cX10_deniesText 28 = .ok (.putfield 62, 3) := by decide +kernel
theorem dX10_deniesText_31 : decode cX10_deniesText 31 = .ok (.iconst 0, 1) := by decide +kernel
theorem dX10_deniesText_32 : decode cX10_deniesText 32 = .ok (.ireturn, 1) := by decide +kernel
theorem dX10_execute_0 : decode cX10_execute 0 = .ok (.aload_n 0, 1) := by decide +kernel
theorem dX10_execute_1 : decode cX10_execute 1 = .ok (.invokevirtual 296, 3) := by decide +kernel
theorem dX10_execute_4 : decode cX10_execute 4 = .ok (.istore_n 1, 1) := by decide +kernel
theorem dX10_execute_5 : decode cX10_execute 5 = .ok (.iload_n 1, 1) := by decide +kernel
theorem dX10_execute_6 : decode cX10_execute 6 = .ok (.ifCond .ne 11, 3) := by decide +kernel
theorem dX10_execute_9 : decode cX10_execute 9 = .ok (.aload_n 0, 1) := by decide +kernel
theorem dX10_execute_10 : decode cX10_execute 10 = .ok (.aload_n 0, 1) := by decide +kernel
theorem dX10_execute_11 : decode cX10_execute 11 = .ok (.getfield 228, 3) := by decide +kernel
theorem dX10_execute_14 : decode cX10_execute 14 = .ok (.putfield 25, 3) := by decide +kernel
theorem dX10_execute_17 : decode cX10_execute 17 = .ok (.aload_n 0, 1) := by decide +kernel
theorem dX10_execute_18 : decode cX10_execute 18 = .ok (.iconst 0, 1) := by decide +kernel
theorem dX10_execute_19 : decode cX10_execute 19 = .ok (.putfield 225, 3) := by decide +kernel
theorem dX10_execute_22 : decode cX10_execute 22 = .ok (.aload_n 0, 1) := by decide +kernel
theorem dX10_execute_23 : decode cX10_execute 23 = .ok (.iload_n 1, 1) := by decide +kernel
theorem dX10_execute_24 : decode cX10_execute 24 = .ok (.ifCond .eq 7, 3) := by decide +kernel
theorem dX10_execute_27 : decode cX10_execute 27 = .ok (.iconst 0, 1) := by decide +kernel
theorem dX10_execute_28 : decode cX10_execute 28 = .ok (.goto 4, 3) := by decide +kernel
theorem dX10_execute_31 : decode cX10_execute 31 = .ok (.iconst 1, 1) := by decide +kernel
theorem dX10_execute_32 : decode cX10_execute 32 = .ok (.invokevirtual 135, 3) := by decide +kernel
theorem dX10_execute_35 : decode cX10_execute 35 = .ok (.ifCond .eq 5, 3) := by decide +kernel
theorem dX10_execute_38 : decode cX10_execute 38 = .ok (.iconst 0, 1) := by decide +kernel
theorem dX10_execute_39 : decode cX10_execute 39 = .ok (.ireturn, 1) := by decide +kernel
theorem dX10_execute_40 : decode cX10_execute 40 = .ok (.aload_n 0, 1) := by decide +kernel
theorem dX10_execute_41 : decode cX10_execute 41 = .ok (.getfield 7, 3) := by decide +kernel
theorem dX10_execute_44 : decode cX10_execute 44 = .ok (.iconst 0, 1) := by decide +kernel
theorem dX10_execute_45 : decode cX10_execute 45 = .ok (.aload_n 0, 1) := by decide +kernel
theorem dX10_execute_46 : decode cX10_execute 46 = .ok (.getfield 19, 3) := by decide +kernel
theorem dX10_execute_49 : decode cX10_execute 49 = .ok (.iconst 0, 1) := by decide +kernel
theorem dX10_execute_50 : decode cX10_execute 50 = .ok (.invokestatic 71, 3) := by decide +kernel
theorem dX10_execute_53 : decode cX10_execute 53 = .ok (.aload_n 0, 1) := by decide +kernel
theorem dX10_execute_54 : decode cX10_execute 54 = .ok (.iconst 1, 1) := by decide +kernel
theorem dX10_execute_55 : decode cX10_execute 55 = .ok (.putfield 65, 3) := by decide +kernel
theorem dX10_execute_58 : decode cX10_execute 58 = .ok (.iconst 0, 1) := by decide +kernel
theorem dX10_execute_59 : decode cX10_execute 59 = .ok (.istore_n 2, 1) := by decide +kernel
theorem dX10_execute_60 : decode cX10_execute 60 = .ok (.iconst 0, 1) := by decide +kernel
theorem dX10_execute_61 : decode cX10_execute 61 = .ok (.istore_n 3, 1) := by decide +kernel
theorem dX10_execute_62 : decode cX10_execute 62 = .ok (.iload_n 2, 1) := by decide +kernel
theorem dX10_execute_63 : decode cX10_execute 63 = .ok (.aload_n 0, 1) := by decide +kernel
theorem dX10_execute_64 : decode cX10_execute 64 = .ok (.getfield 234, 3) := by decide +kernel
theorem dX10_execute_67 : decode cX10_execute 67 = .ok (.if_icmp .ge 31, 3) := by decide +kernel
theorem dX10_execute_70 : decode cX10_execute 70 = .ok (.aload_n 0, 1) := by decide +kernel
theorem dX10_execute_71 : decode cX10_execute 71 = .ok (.getfield 49, 3) := by decide +kernel
theorem dX10_execute_74 : decode cX10_execute 74 = .ok (.ifCond .ne 24, 3) := by decide +kernel
theorem dX10_execute_77 : decode cX10_execute 77 = .ok (.aload_n 0, 1) := by decide +kernel
theorem dX10_execute_78 : decode cX10_execute 78 = .ok (.iconst 3, 1) := by decide +kernel
theorem dX10_execute_79 : decode cX10_execute 79 = .ok (.iload_n 2, 1) := by decide +kernel
theorem dX10_execute_80 : decode cX10_execute 80 = .ok (.imul, 1) := by decide +kernel
theorem dX10_execute_81 : decode cX10_execute 81 = .ok (.invokevirtual 299, 3) := by decide +kernel
theorem dX10_execute_84 : decode cX10_execute 84 = .ok (.istore_n 3, 1) := by decide +kernel
theorem dX10_execute_85 : decode cX10_execute 85 = .ok (.aload_n 0, 1) := by decide +kernel
theorem dX10_execute_86 : decode cX10_execute 86 = .ok (.getfield 49, 3) := by decide +kernel
theorem dX10_execute_89 : decode cX10_execute 89 = .ok (.ifCond .ne (-27), 3) := by decide +kernel
theorem dX10_execute_92 : decode cX10_execute 92 = .ok (.iinc 2 1, 3) := by decide +kernel
theorem dX10_execute_95 : decode cX10_execute 95 = .ok (.goto (-33), 3) := by decide +kernel
theorem dX10_execute_98 : decode cX10_execute 98 = .ok (.aload_n 0, 1) := by decide +kernel
theorem dX10_execute_99 : decode cX10_execute 99 = .ok (.iconst 0, 1) := by decide +kernel
theorem dX10_execute_100 : decode cX10_execute 100 = .ok (.putfield 65, 3) := by decide +kernel
theorem dX10_execute_103 : decode cX10_execute 103 = .ok (.aload_n 0, 1) := by decide +kernel
theorem dX10_execute_104 : decode cX10_execute 104 = .ok (.getfield 49, 3) := by decide +kernel
theorem dX10_execute_107 : decode cX10_execute 107 = .ok (.ifCond .le 32, 3) := by decide +kernel
theorem dX10_execute_110 : decode cX10_execute 110 = .ok (.aload_n 0, 1) := by decide +kernel
theorem dX10_execute_111 : decode cX10_execute 111 = .ok (.getfield 19, 3) := by decide +kernel
theorem dX10_execute_114 : decode cX10_execute 114 = .ok (.iconst 0, 1) := by decide +kernel
theorem dX10_execute_115 : decode cX10_execute 115 = .ok (.aload_n 0, 1) := by decide +kernel
theorem dX10_execute_116 : decode cX10_execute 116 = .ok (.getfield 7, 3) := by decide +kernel
theorem dX10_execute_119 : decode cX10_execute 119 = .ok (.iconst 0, 1) := by decide +kernel
theorem dX10_execute_120 : decode cX10_execute 120 = .ok (.invokestatic 71, 3) := by decide +kernel
theorem dX10_execute_123 : decode cX10_execute 123 = .ok (.aload_n 0, 1) := by decide +kernel
theorem dX10_execute_124 : decode cX10_execute 124 = .ok (.iload_n 2, 1) := by decide +kernel
theorem dX10_execute_125 : decode cX10_execute 125 = .ok (.invokevirtual 302, 3) := by decide +kernel
theorem dX10_execute_128 : decode cX10_execute 128 = .ok (.iload_n 3, 1) := by decide +kernel
theorem dX10_execute_129 : decode cX10_execute 129 = .ok (.ifCond .le 7, 3) := by decide +kernel
theorem dX10_execute_132 : decode cX10_execute 132 = .ok (.iconst 0, 1) := by decide +kernel
theorem dX10_execute_133 : decode cX10_execute 133 = .ok (.goto 4, 3) := by decide +kernel
theorem dX10_execute_136 : decode cX10_execute 136 = .ok (.iload_n 3, 1) := by decide +kernel
theorem dX10_execute_137 : decode cX10_execute 137 = .ok (.iadd, 1) := by decide +kernel
theorem dX10_execute_138 : decode cX10_execute 138 = .ok (.ireturn, 1) := by decide +kernel
theorem dX10_execute_139 : decode cX10_execute 139 = .ok (.aload_n 0, 1) := by decide +kernel
theorem dX10_execute_140 : decode cX10_execute 140 = .ok (.aload_n 0, 1) := by decide +kernel
theorem dX10_execute_141 : decode cX10_execute 141 = .ok (.getfield 19, 3) := by decide +kernel
theorem dX10_execute_144 : decode cX10_execute 144 = .ok (.invokevirtual 145, 3) := by decide +kernel
theorem dX10_execute_147 : decode cX10_execute 147 = .ok (.aload_n 0, 1) := by decide +kernel
theorem dX10_execute_148 : decode cX10_execute 148 = .ok (.getfield 234, 3) := by decide +kernel
theorem dX10_execute_151 : decode cX10_execute 151 = .ok (.ireturn, 1) := by decide +kernel
theorem dX10_faultPosition_0 : decode cX10_faultPosition 0 = .ok (.aload_n 0, 1) := by decide +kernel
theorem dX10_faultPosition_1 : decode cX10_faultPosition 1 = .ok (.aload_n 0, 1) := by decide +kernel
theorem dX10_faultPosition_2 : decode cX10_faultPosition 2 = .ok (.getfield 25, 3) := by decide +kernel
theorem dX10_faultPosition_5 : decode cX10_faultPosition 5 = .ok (.ifCond .ge 7, 3) := by decide +kernel
theorem dX10_faultPosition_8 : decode cX10_faultPosition 8 = .ok (.iconst 1, 1) := by decide +kernel
theorem dX10_faultPosition_9 : decode cX10_faultPosition 9 = .ok (.goto 4, 3) := by decide +kernel
theorem dX10_faultPosition_12 : decode cX10_faultPosition 12 = .ok (.iconst 0, 1) := by decide +kernel
theorem dX10_faultPosition_13 : decode cX10_faultPosition 13 = .ok (.invokevirtual 135, 3) := by decide +kernel
theorem dX10_faultPosition_16 : decode cX10_faultPosition 16 = .ok (.ifCond .eq 7, 3) := by decide +kernel
theorem dX10_faultPosition_19 : decode cX10_faultPosition 19 = .ok (.iconst 0, 1) := by decide +kernel
theorem dX10_faultPosition_20 : decode cX10_faultPosition 20 = .ok (.goto 7, 3) := by decide +kernel
theorem dX10_faultPosition_23 : decode cX10_faultPosition 23 = .ok (.aload_n 0, 1) := by decide +kernel
theorem dX10_faultPosition_24 : decode cX10_faultPosition 24 = .ok (.getfield 25, 3) := by decide +kernel
theorem dX10_faultPosition_27 : decode cX10_faultPosition 27 = .ok (.ireturn, 1) := by decide +kernel
theorem dX10_writes_0 : decode cX10_writes 0 = .ok (.aload_n 0, 1) := by decide +kernel
theorem dX10_writes_1 : decode cX10_writes 1 = .ok (.getfield 29, 3) := by decide +kernel
theorem dX10_writes_4 : decode cX10_writes 4 = .ok (.aload_n 0, 1) := by decide +kernel
theorem dX10_writes_5 : decode cX10_writes 5 = .ok (.getfield 305, 3) := by decide +kernel
theorem dX10_writes_8 : decode cX10_writes 8 = .ok (.iload_n 1, 1) := by decide +kernel
theorem dX10_writes_9 : decode cX10_writes 9 = .ok (.i2c, 1) := by decide +kernel
theorem dX10_writes_10 : decode cX10_writes 10 = .ok (.castore, 1) := by decide +kernel
theorem dX10_writes_11 : decode cX10_writes 11 = .ok (.aload_n 0, 1) := by decide +kernel
theorem dX10_writes_12 : decode cX10_writes 12 = .ok (.dup, 1) := by decide +kernel
theorem dX10_writes_13 : decode cX10_writes 13 = .ok (.getfield 305, 3) := by decide +kernel
theorem dX10_writes_16 : decode cX10_writes 16 = .ok (.iconst 1, 1) := by decide +kernel
theorem dX10_writes_17 : decode cX10_writes 17 = .ok (.iadd, 1) := by decide +kernel
theorem dX10_writes_18 : decode cX10_writes 18 = .ok (.putfield 305, 3) := by decide +kernel
theorem dX10_writes_21 : decode cX10_writes 21 = .ok (.return_, 1) := by decide +kernel
theorem dX10_writesWork_0 : decode cX10_writesWork 0 = .ok (.aload_n 0, 1) := by decide +kernel
theorem dX10_writesWork_1 : decode cX10_writesWork 1 = .ok (.iconst 0, 1) := by decide +kernel
theorem dX10_writesWork_2 : decode cX10_writesWork 2 = .ok (.putfield 305, 3) := by decide +kernel
theorem dX10_writesWork_5 : decode cX10_writesWork 5 = .ok (.iconst 0, 1) := by decide +kernel
theorem dX10_writesWork_6 : decode cX10_writesWork 6 = .ok (.istore_n 1, 1) := by decide +kernel
theorem dX10_writesWork_7 : decode cX10_writesWork 7 = .ok (.iload_n 1, 1) := by decide +kernel
theorem dX10_writesWork_8 : decode cX10_writesWork 8 = .ok (.aload_n 0, 1) := by decide +kernel
theorem dX10_writesWork_9 : decode cX10_writesWork 9 = .ok (.getfield 79, 3) := by decide +kernel
theorem dX10_writesWork_12 : decode cX10_writesWork 12 = .ok (.if_icmp .ge 22, 3) := by decide +kernel
theorem dX10_writesWork_15 : decode cX10_writesWork 15 = .ok (.aload_n 0, 1) := by decide +kernel
theorem dX10_writesWork_16 : decode cX10_writesWork 16 = .ok (.aload_n 0, 1) := by decide +kernel
theorem dX10_writesWork_17 : decode cX10_writesWork 17 = .ok (.getfield 33, 3) := by decide +kernel
theorem dX10_writesWork_20 : decode cX10_writesWork 20 = .ok (.iload_n 1, 1) := by decide +kernel
theorem dX10_writesWork_21 : decode cX10_writesWork 21 = .ok (.iaload, 1) := by decide +kernel
theorem dX10_writesWork_22 : decode cX10_writesWork 22 = .ok (.invokestatic 161, 3) := by decide +kernel
theorem dX10_writesWork_25 : decode cX10_writesWork 25 = .ok (.invokevirtual 308, 3) := by decide +kernel
theorem dX10_writesWork_28 : decode cX10_writesWork 28 = .ok (.iinc 1 1, 3) := by decide +kernel
theorem dX10_writesWork_31 : decode cX10_writesWork 31 = .ok (.goto (-24), 3) := by decide +kernel
theorem dX10_writesWork_34 : decode cX10_writesWork 34 = .ok (.return_, 1) := by decide +kernel
theorem dX10_writeCase_0 : decode cX10_writeCase 0 = .ok (.aload_n 0, 1) := by decide +kernel
theorem dX10_writeCase_1 : decode cX10_writeCase 1 = .ok (.iload_n 1, 1) := by decide +kernel
theorem dX10_writeCase_2 : decode cX10_writeCase 2 = .ok (.invokevirtual 155, 3) := by decide +kernel
theorem dX10_writeCase_5 : decode cX10_writeCase 5 = .ok (.ifCond .eq 5, 3) := by decide +kernel
theorem dX10_writeCase_8 : decode cX10_writeCase 8 = .ok (.iconst 0, 1) := by decide +kernel
theorem dX10_writeCase_9 : decode cX10_writeCase 9 = .ok (.ireturn, 1) := by decide +kernel
theorem dX10_writeCase_10 : decode cX10_writeCase 10 = .ok (.aload_n 0, 1) := by decide +kernel
theorem dX10_writeCase_11 : decode cX10_writeCase 11 = .ok (.iload_n 1, 1) := by decide +kernel
theorem dX10_writeCase_12 : decode cX10_writeCase 12 = .ok (.invokestatic 138, 3) := by decide +kernel
theorem dX10_writeCase_15 : decode cX10_writeCase 15 = .ok (.invokevirtual 128, 3) := by decide +kernel
theorem dX10_writeCase_18 : decode cX10_writeCase 18 = .ok (.aload_n 0, 1) := by decide +kernel
theorem dX10_writeCase_19 : decode cX10_writeCase 19 = .ok (.invokevirtual 311, 3) := by decide +kernel
theorem dX10_writeCase_22 : decode cX10_writeCase 22 = .ok (.aload_n 0, 1) := by decide +kernel
theorem dX10_writeCase_23 : decode cX10_writeCase 23 = .ok (.bipush 58, 2) := by decide +kernel
theorem dX10_writeCase_25 : decode cX10_writeCase 25 = .ok (.invokevirtual 308, 3) := by decide +kernel
theorem dX10_writeCase_28 : decode cX10_writeCase 28 = .ok (.aload_n 0, 1) := by decide +kernel
theorem dX10_writeCase_29 : decode cX10_writeCase 29 = .ok (.aload_n 0, 1) := by decide +kernel
theorem dX10_writeCase_30 : decode cX10_writeCase 30 = .ok (.iload_n 1, 1) := by decide +kernel
theorem dX10_writeCase_31 : decode cX10_writeCase 31 = .ok (.iconst 1, 1) := by decide +kernel
theorem dX10_writeCase_32 : decode cX10_writeCase 32 = .ok (.invokevirtual 149, 3) := by decide +kernel
theorem dX10_writeCase_35 : decode cX10_writeCase 35 = .ok (.ifCond .ne 8, 3) := by decide +kernel
theorem dX10_writeCase_38 : decode cX10_writeCase 38 = .ok (.bipush 63, 2) := by decide +kernel
theorem dX10_writeCase_40 : decode cX10_writeCase 40 = .ok (.goto 20, 3) := by decide +kernel
theorem dX10_writeCase_43 : decode cX10_writeCase 43 = .ok (.aload_n 0, 1) := by decide +kernel
theorem dX10_writeCase_44 : decode cX10_writeCase 44 = .ok (.iload_n 1, 1) := by decide +kernel
theorem dX10_writeCase_45 : decode cX10_writeCase 45 = .ok (.iconst 1, 1) := by decide +kernel
theorem dX10_writeCase_46 : decode cX10_writeCase 46 = .ok (.invokevirtual 149, 3) := by decide +kernel
theorem dX10_writeCase_49 : decode cX10_writeCase 49 = .ok (.iconst 1, 1) := by decide +kernel
theorem dX10_writeCase_50 : decode cX10_writeCase 50 = .ok (.if_icmp .ne 8, 3) := by decide +kernel
theorem dX10_writeCase_53 : decode cX10_writeCase 53 = .ok (.bipush 116, 2) := by decide +kernel
theorem dX10_writeCase_55 : decode cX10_writeCase 55 = .ok (.goto 5, 3) := by decide +kernel
theorem dX10_writeCase_58 : decode cX10_writeCase 58 = .ok (.bipush 102, 2) := by decide +kernel
theorem dX10_writeCase_60 : decode cX10_writeCase 60 = .ok (.invokevirtual 308, 3) := by decide +kernel
theorem dX10_writeCase_63 : decode cX10_writeCase 63 = .ok (.aload_n 0, 1) := by decide +kernel
theorem dX10_writeCase_64 : decode cX10_writeCase 64 = .ok (.getfield 305, 3) := by decide +kernel
theorem dX10_writeCase_67 : decode cX10_writeCase 67 = .ok (.ireturn, 1) := by decide +kernel
theorem dX10_writeRelaxed_0 : decode cX10_writeRelaxed 0 = .ok (.aload_n 0, 1) := by decide +kernel
theorem dX10_writeRelaxed_1 : decode cX10_writeRelaxed 1 = .ok (.iload_n 1, 1) := by decide +kernel
theorem dX10_writeRelaxed_2 : decode cX10_writeRelaxed 2 = .ok (.invokevirtual 174, 3) := by decide +kernel
theorem dX10_writeRelaxed_5 : decode cX10_writeRelaxed 5 = .ok (.ifCond .ne 5, 3) := by decide +kernel
theorem dX10_writeRelaxed_8 : decode cX10_writeRelaxed 8 = .ok (.iconst 0, 1) := by decide +kernel
theorem dX10_writeRelaxed_9 : decode cX10_writeRelaxed 9 = .ok (.ireturn, 1) := by decide +kernel
theorem dX10_writeRelaxed_10 : decode cX10_writeRelaxed 10 = .ok (.aload_n 0, 1) := by decide +kernel
theorem dX10_writeRelaxed_11 : decode cX10_writeRelaxed 11 = .ok (.invokevirtual 311, 3) := by decide +kernel
theorem dX10_writeRelaxed_14 : decode cX10_writeRelaxed 14 = .ok (.aload_n 0, 1) := by decide +kernel
theorem dX10_writeRelaxed_15 : decode cX10_writeRelaxed 15 = .ok (.getfield 305, 3) := by decide +kernel
theorem dX10_writeRelaxed_18 : decode cX10_writeRelaxed 18 = .ok (.ireturn, 1) := by decide +kernel
theorem dX10_lineCharacter_0 : decode cX10_lineCharacter 0 = .ok (.aload_n 0, 1) := by decide +kernel
theorem dX10_lineCharacter_1 : decode cX10_lineCharacter 1 = .ok (.iload_n 1, 1) := by decide +kernel
theorem dX10_lineCharacter_2 : decode cX10_lineCharacter 2 = .ok (.iconst 0, 1) := by decide +kernel
theorem dX10_lineCharacter_3 : decode cX10_lineCharacter 3 = .ok (.aload_n 0, 1) := by decide +kernel
theorem dX10_lineCharacter_4 : decode cX10_lineCharacter 4 = .ok (.getfield 305, 3) := by decide +kernel
theorem dX10_lineCharacter_7 : decode cX10_lineCharacter 7 = .ok (.iconst 1, 1) := by decide +kernel
theorem dX10_lineCharacter_8 : decode cX10_lineCharacter 8 = .ok (.isub, 1) := by decide +kernel
theorem dX10_lineCharacter_9 : decode cX10_lineCharacter 9 = .ok (.invokestatic 75, 3) := by decide +kernel
theorem dX10_lineCharacter_12 : decode cX10_lineCharacter 12 = .ok (.ifCond .eq 7, 3) := by decide +kernel
theorem dX10_lineCharacter_15 : decode cX10_lineCharacter 15 = .ok (.iconst 0, 1) := by decide +kernel
theorem dX10_lineCharacter_16 : decode cX10_lineCharacter 16 = .ok (.goto 4, 3) := by decide +kernel
theorem dX10_lineCharacter_19 : decode cX10_lineCharacter 19 = .ok (.iconst 1, 1) := by decide +kernel
theorem dX10_lineCharacter_20 : decode cX10_lineCharacter 20 = .ok (.invokevirtual 135, 3) := by decide +kernel
theorem dX10_lineCharacter_23 : decode cX10_lineCharacter 23 = .ok (.ifCond .eq 8, 3) := by decide +kernel
theorem dX10_lineCharacter_26 : decode cX10_lineCharacter 26 = .ok (.bipush 32, 2) := by decide +kernel
theorem dX10_lineCharacter_28 : decode cX10_lineCharacter 28 = .ok (.goto 9, 3) := by decide +kernel
theorem dX10_lineCharacter_31 : decode cX10_lineCharacter 31 = .ok (.aload_n 0, 1) := by decide +kernel
theorem dX10_lineCharacter_32 : decode cX10_lineCharacter 32 = .ok (.getfield 29, 3) := by decide +kernel
theorem dX10_lineCharacter_35 : decode cX10_lineCharacter 35 = .ok (.iload_n 1, 1) := by decide +kernel
theorem dX10_lineCharacter_36 : decode cX10_lineCharacter 36 = .ok (.caload, 1) := by decide +kernel
theorem dX10_lineCharacter_37 : decode cX10_lineCharacter 37 = .ok (.ireturn, 1) := by decide +kernel
theorem dX10_denial_0 : decode cX10_denial 0 = .ok (.aload_n 0, 1) := by decide +kernel
theorem dX10_denial_1 : decode cX10_denial 1 = .ok (.aload_n 0, 1) := by decide +kernel
theorem dX10_denial_2 : decode cX10_denial 2 = .ok (.getfield 56, 3) := by decide +kernel
theorem dX10_denial_5 : decode cX10_denial 5 = .ok (.ifCond .ne 7, 3) := by decide +kernel
theorem dX10_denial_8 : decode cX10_denial 8 = .ok (.iconst 1, 1) := by decide +kernel
theorem dX10_denial_9 : decode cX10_denial 9 = .ok (.goto 4, 3) := by decide +kernel
theorem dX10_denial_12 : decode cX10_denial 12 = .ok (.iconst 0, 1) := by decide +kernel
theorem dX10_denial_13 : decode cX10_denial 13 = .ok (.invokevirtual 135, 3) := by decide +kernel
theorem dX10_denial_16 : decode cX10_denial 16 = .ok (.ifCond .eq 7, 3) := by decide +kernel
theorem dX10_denial_19 : decode cX10_denial 19 = .ok (.iconst 0, 1) := by decide +kernel
theorem dX10_denial_20 : decode cX10_denial 20 = .ok (.goto 7, 3) := by decide +kernel
theorem dX10_denial_23 : decode cX10_denial 23 = .ok (.aload_n 0, 1) := by decide +kernel
theorem dX10_denial_24 : decode cX10_denial 24 = .ok (.getfield 56, 3) := by decide +kernel
theorem dX10_denial_27 : decode cX10_denial 27 = .ok (.ireturn, 1) := by decide +kernel
theorem dX10_denialDetail_0 : decode cX10_denialDetail 0 = .ok (.aload_n 0, 1) := by decide +kernel
theorem dX10_denialDetail_1 : decode cX10_denialDetail 1 = .ok (.aload_n 0, 1) := by decide +kernel
theorem dX10_denialDetail_2 : decode cX10_denialDetail 2 = .ok (.getfield 56, 3) := by decide +kernel
theorem dX10_denialDetail_5 : decode cX10_denialDetail 5 = .ok (.ifCond .ne 7, 3) := by decide +kernel
theorem dX10_denialDetail_8 : decode cX10_denialDetail 8 = .ok (.iconst 1, 1) := by decide +kernel
theorem dX10_denialDetail_9 : decode cX10_denialDetail 9 = .ok (.goto 4, 3) := by decide +kernel
theorem dX10_denialDetail_12 : decode cX10_denialDetail 12 = .ok (.iconst 0, 1) := by decide +kernel
theorem dX10_denialDetail_13 : decode cX10_denialDetail 13 = .ok (.invokevirtual 135, 3) := by decide +kernel
theorem dX10_denialDetail_16 : decode cX10_denialDetail 16 = .ok (.ifCond .eq 7, 3) := by decide +kernel
theorem dX10_denialDetail_19 : decode cX10_denialDetail 19 = .ok (.iconst 0, 1) := by decide +kernel
theorem dX10_denialDetail_20 : decode cX10_denialDetail 20 = .ok (.goto 7, 3) := by decide +kernel
theorem dX10_denialDetail_23 : decode cX10_denialDetail 23 = .ok (.aload_n 0, 1) := by decide +kernel
theorem dX10_denialDetail_24 : decode cX10_denialDetail 24 = .ok (.getfield 59, 3) := by decide +kernel
theorem dX10_denialDetail_27 : decode cX10_denialDetail 27 = .ok (.ireturn, 1) := by decide +kernel
theorem dX10_denialCause_0 : decode cX10_denialCause 0 = .ok (.aload_n 0, 1) := by decide +kernel
theorem dX10_denialCause_1 : decode cX10_denialCause 1 = .ok (.aload_n 0, 1) := by decide +kernel
theorem dX10_denialCause_2 : decode cX10_denialCause 2 = .ok (.getfield 62, 3) := by decide +kernel
theorem dX10_denialCause_5 : decode cX10_denialCause 5 = .ok (.ifCond .ne 7, 3) := by decide +kernel
theorem dX10_denialCause_8 : decode cX10_denialCause 8 = .ok (.iconst 1, 1) := by decide +kernel
theorem dX10_denialCause_9 : decode cX10_denialCause 9 = .ok (.goto 4, 3) := by decide +kernel
theorem dX10_denialCause_12 : decode cX10_denialCause 12 = .ok (.iconst 0, 1) := by decide +kernel
theorem dX10_denialCause_13 : decode cX10_denialCause 13 = .ok (.invokevirtual 135, 3) := by decide +kernel
theorem dX10_denialCause_16 : decode cX10_denialCause 16 = .ok (.ifCond .eq 7, 3) := by decide +kernel
theorem dX10_denialCause_19 : decode cX10_denialCause 19 = .ok (.iconst 0, 1) := by decide +kernel
theorem dX10_denialCause_20 : decode cX10_denialCause 20 = .ok (.goto 7, 3) := by decide +kernel
theorem dX10_denialCause_23 : decode cX10_denialCause 23 = .ok (.aload_n 0, 1) := by decide +kernel
theorem dX10_denialCause_24 : decode cX10_denialCause 24 = .ok (.getfield 62, 3) := by decide +kernel
theorem dX10_denialCause_27 : decode cX10_denialCause 27 = .ok (.ireturn, 1) := by decide +kernel
theorem dX10_undo_0 : decode cX10_undo 0 = .ok (.aload_n 0, 1) := by decide +kernel
theorem dX10_undo_1 : decode cX10_undo 1 = .ok (.aload_n 0, 1) := by decide +kernel
theorem dX10_undo_2 : decode cX10_undo 2 = .ok (.getfield 68, 3) := by decide +kernel
theorem dX10_undo_5 : decode cX10_undo 5 = .ok (.ifCond .ne 7, 3) := by decide +kernel
theorem dX10_undo_8 : decode cX10_undo 8 = .ok (.iconst 1, 1) := by decide +kernel
theorem dX10_undo_9 : decode cX10_undo 9 = .ok (.goto 4, 3) := by decide +kernel
theorem dX10_undo_12 : decode cX10_undo 12 = .ok (.iconst 0, 1) := by decide +kernel
theorem dX10_undo_13 : decode cX10_undo 13 = .ok (.invokevirtual 135, 3) := by decide +kernel
theorem dX10_undo_16 : decode cX10_undo 16 = .ok (.ifCond .eq 5, 3) := by decide +kernel
theorem dX10_undo_19 : decode cX10_undo 19 = .ok (.iconst 0, 1) := by decide +kernel
theorem dX10_undo_20 : decode cX10_undo 20 = .ok (.ireturn, 1) := by decide +kernel
theorem dX10_undo_21 : decode cX10_undo 21 = .ok (.aload_n 0, 1) := by decide +kernel
theorem dX10_undo_22 : decode cX10_undo 22 = .ok (.dup, 1) := by decide +kernel
theorem dX10_undo_23 : decode cX10_undo 23 = .ok (.getfield 68, 3) := by decide +kernel
theorem dX10_undo_26 : decode cX10_undo 26 = .ok (.iconst 1, 1) := by decide +kernel
theorem dX10_undo_27 : decode cX10_undo 27 = .ok (.isub, 1) := by decide +kernel
theorem dX10_undo_28 : decode cX10_undo 28 = .ok (.putfield 68, 3) := by decide +kernel
theorem dX10_undo_31 : decode cX10_undo 31 = .ok (.aload_n 0, 1) := by decide +kernel
theorem dX10_undo_32 : decode cX10_undo 32 = .ok (.getfield 13, 3) := by decide +kernel
theorem dX10_undo_35 : decode cX10_undo 35 = .ok (.bipush 82, 2) := by decide +kernel
theorem dX10_undo_37 : decode cX10_undo 37 = .ok (.aload_n 0, 1) := by decide +kernel
theorem dX10_undo_38 : decode cX10_undo 38 = .ok (.getfield 68, 3) := by decide +kernel
theorem dX10_undo_41 : decode cX10_undo 41 = .ok (.imul, 1) := by decide +kernel
theorem dX10_undo_42 : decode cX10_undo 42 = .ok (.aload_n 0, 1) := by decide +kernel
theorem dX10_undo_43 : decode cX10_undo 43 = .ok (.getfield 7, 3) := by decide +kernel
theorem dX10_undo_46 : decode cX10_undo 46 = .ok (.iconst 0, 1) := by decide +kernel
theorem dX10_undo_47 : decode cX10_undo 47 = .ok (.invokestatic 71, 3) := by decide +kernel
theorem dX10_undo_50 : decode cX10_undo 50 = .ok (.aload_n 0, 1) := by decide +kernel
theorem dX10_undo_51 : decode cX10_undo 51 = .ok (.getfield 68, 3) := by decide +kernel
theorem dX10_undo_54 : decode cX10_undo 54 = .ok (.ireturn, 1) := by decide +kernel
theorem dX10_undoCount_0 : decode cX10_undoCount 0 = .ok (.aload_n 0, 1) := by decide +kernel
theorem dX10_undoCount_1 : decode cX10_undoCount 1 = .ok (.iconst 0, 1) := by decide +kernel
theorem dX10_undoCount_2 : decode cX10_undoCount 2 = .ok (.putfield 49, 3) := by decide +kernel
theorem dX10_undoCount_5 : decode cX10_undoCount 5 = .ok (.aload_n 0, 1) := by decide +kernel
theorem dX10_undoCount_6 : decode cX10_undoCount 6 = .ok (.getfield 68, 3) := by decide +kernel
theorem dX10_undoCount_9 : decode cX10_undoCount 9 = .ok (.ireturn, 1) := by decide +kernel
theorem dX10_saveSnapshot_0 : decode cX10_saveSnapshot 0 = .ok (.aload_n 0, 1) := by decide +kernel
theorem dX10_saveSnapshot_1 : decode cX10_saveSnapshot 1 = .ok (.iconst 0, 1) := by decide +kernel
theorem dX10_saveSnapshot_2 : decode cX10_saveSnapshot 2 = .ok (.putfield 49, 3) := by decide +kernel
theorem dX10_saveSnapshot_5 : decode cX10_saveSnapshot 5 = .ok (.aload_n 0, 1) := by decide +kernel
theorem dX10_saveSnapshot_6 : decode cX10_saveSnapshot 6 = .ok (.iconst 1, 1) := by decide +kernel
theorem dX10_saveSnapshot_7 : decode cX10_saveSnapshot 7 = .ok (.putfield 314, 3) := by decide +kernel
theorem dX10_saveSnapshot_10 : decode cX10_saveSnapshot 10 = .ok (.aload_n 0, 1) := by decide +kernel
theorem dX10_saveSnapshot_11 : decode cX10_saveSnapshot 11 = .ok (.getfield 7, 3) := by decide +kernel
theorem dX10_saveSnapshot_14 : decode cX10_saveSnapshot 14 = .ok (.iconst 0, 1) := by decide +kernel
theorem dX10_saveSnapshot_15 : decode cX10_saveSnapshot 15 = .ok (.aload_n 0, 1) := by decide +kernel
theorem dX10_saveSnapshot_16 : decode cX10_saveSnapshot 16 = .ok (.getfield 16, 3) := by decide +kernel
theorem dX10_saveSnapshot_19 : decode cX10_saveSnapshot 19 = .ok (.iconst 0, 1) := by decide +kernel
theorem dX10_saveSnapshot_20 : decode cX10_saveSnapshot 20 = .ok (.invokestatic 71, 3) := by decide +kernel
theorem dX10_saveSnapshot_23 : decode cX10_saveSnapshot 23 = .ok (.aload_n 0, 1) := by decide +kernel
theorem dX10_saveSnapshot_24 : decode cX10_saveSnapshot 24 = .ok (.getfield 7, 3) := by decide +kernel
theorem dX10_saveSnapshot_27 : decode cX10_saveSnapshot 27 = .ok (.iconst 0, 1) := by decide +kernel
theorem dX10_saveSnapshot_28 : decode cX10_saveSnapshot 28 = .ok (.iaload, 1) := by decide +kernel
theorem dX10_saveSnapshot_29 : decode cX10_saveSnapshot 29 = .ok (.ireturn, 1) := by decide +kernel
theorem dX10_restoreSnapshot_0 : decode cX10_restoreSnapshot 0 = .ok (.aload_n 0, 1) := by decide +kernel
theorem dX10_restoreSnapshot_1 : decode cX10_restoreSnapshot 1 = .ok (.aload_n 0, 1) := by decide +kernel
theorem dX10_restoreSnapshot_2 : decode cX10_restoreSnapshot 2 = .ok (.getfield 314, 3) := by decide +kernel
theorem dX10_restoreSnapshot_5 : decode cX10_restoreSnapshot 5 = .ok (.ifCond .eq 7, 3) := by decide +kernel
theorem dX10_restoreSnapshot_8 : decode cX10_restoreSnapshot 8 = .ok (.iconst 0, 1) := by decide +kernel
theorem dX10_restoreSnapshot_9 : decode cX10_restoreSnapshot 9 = .ok (.goto 4, 3) := by decide +kernel
theorem dX10_restoreSnapshot_12 : decode cX10_restoreSnapshot 12 = .ok (.iconst 1, 1) := by decide +kernel
theorem dX10_restoreSnapshot_13 : decode cX10_restoreSnapshot 13 = .ok (.invokevirtual 135, 3) := by decide +kernel
theorem dX10_restoreSnapshot_16 : decode cX10_restoreSnapshot 16 = .ok (.ifCond .eq 5, 3) := by decide +kernel
theorem dX10_restoreSnapshot_19 : decode cX10_restoreSnapshot 19 = .ok (.iconst 0, 1) := by decide +kernel
theorem dX10_restoreSnapshot_20 : decode cX10_restoreSnapshot 20 = .ok (.ireturn, 1) := by decide +kernel
theorem dX10_restoreSnapshot_21 : decode cX10_restoreSnapshot 21 = .ok (.aload_n 0, 1) := by decide +kernel
theorem dX10_restoreSnapshot_22 : decode cX10_restoreSnapshot 22 = .ok (.getfield 16, 3) := by decide +kernel
theorem dX10_restoreSnapshot_25 : decode cX10_restoreSnapshot 25 = .ok (.iconst 0, 1) := by decide +kernel
theorem dX10_restoreSnapshot_26 : decode cX10_restoreSnapshot 26 = .ok (.aload_n 0, 1) := by decide +kernel
theorem dX10_restoreSnapshot_27 : decode cX10_restoreSnapshot 27 = .ok (.getfield 7, 3) := by decide +kernel
theorem dX10_restoreSnapshot_30 : decode cX10_restoreSnapshot 30 = .ok (.iconst 0, 1) := by decide +kernel
theorem dX10_restoreSnapshot_31 : decode cX10_restoreSnapshot 31 = .ok (.invokestatic 71, 3) := by decide +kernel
theorem dX10_restoreSnapshot_34 : decode cX10_restoreSnapshot 34 = .ok (.aload_n 0, 1) := by decide +kernel
theorem dX10_restoreSnapshot_35 : decode cX10_restoreSnapshot 35 = .ok (.iconst 0, 1) := by decide +kernel
theorem dX10_restoreSnapshot_36 : decode cX10_restoreSnapshot 36 = .ok (.putfield 68, 3) := by decide +kernel
theorem dX10_restoreSnapshot_39 : decode cX10_restoreSnapshot 39 = .ok (.aload_n 0, 1) := by decide +kernel
theorem dX10_restoreSnapshot_40 : decode cX10_restoreSnapshot 40 = .ok (.getfield 7, 3) := by decide +kernel
theorem dX10_restoreSnapshot_43 : decode cX10_restoreSnapshot 43 = .ok (.iconst 0, 1) := by decide +kernel
theorem dX10_restoreSnapshot_44 : decode cX10_restoreSnapshot 44 = .ok (.iaload, 1) := by decide +kernel
theorem dX10_restoreSnapshot_45 : decode cX10_restoreSnapshot 45 = .ok (.ireturn, 1) := by decide +kernel
