theorem dL_cell_0 : decode cL_cell 0 = .ok (.iload_n 1, 1) := by decide +kernel
theorem dL_cell_1 : decode cL_cell 1 = .ok (.aload_n 0, 1) := by decide +kernel
theorem dL_cell_2 : decode cL_cell 2 = .ok (.arraylength, 1) := by decide +kernel
theorem dL_cell_3 : decode cL_cell 3 = .ok (.if_icmp .ge 9, 3) := by decide +kernel
theorem dL_cell_6 : decode cL_cell 6 = .ok (.aload_n 0, 1) := by decide +kernel
theorem dL_cell_7 : decode cL_cell 7 = .ok (.iload_n 1, 1) := by decide +kernel
theorem dL_cell_8 : decode cL_cell 8 = .ok (.iaload, 1) := by decide +kernel
theorem dL_cell_9 : decode cL_cell 9 = .ok (.goto 15, 3) := by decide +kernel
theorem dL_cell_12 : decode cL_cell 12 = .ok (.sipush 7919, 3) := by decide +kernel
theorem dL_cell_15 : decode cL_cell 15 = .ok (.iload_n 1, 1) := by decide +kernel
theorem dL_cell_16 : decode cL_cell 16 = .ok (.iconst 3, 1) := by decide +kernel
theorem dL_cell_17 : decode cL_cell 17 = .ok (.iadd, 1) := by decide +kernel
theorem dL_cell_18 : decode cL_cell 18 = .ok (.imul, 1) := by decide +kernel
theorem dL_cell_19 : decode cL_cell 19 = .ok (.iload_n 1, 1) := by decide +kernel
theorem dL_cell_20 : decode cL_cell 20 = .ok (.bipush 11, 2) := by decide +kernel
theorem dL_cell_22 : decode cL_cell 22 = .ok (.iadd, 1) := by decide +kernel
theorem dL_cell_23 : decode cL_cell 23 = .ok (.imul, 1) := by decide +kernel
theorem dL_cell_24 : decode cL_cell 24 = .ok (.ireturn, 1) := by decide +kernel
theorem dL_low_0 : decode cL_low 0 = .ok (.iload_n 0, 1) := by decide +kernel
theorem dL_low_1 : decode cL_low 1 = .ok (.ldc 7, 2) := by decide +kernel
theorem dL_low_3 : decode cL_low 3 = .ok (.iand, 1) := by decide +kernel
theorem dL_low_4 : decode cL_low 4 = .ok (.iload_n 1, 1) := by decide +kernel
theorem dL_low_5 : decode cL_low 5 = .ok (.irem, 1) := by decide +kernel
theorem dL_low_6 : decode cL_low 6 = .ok (.ireturn, 1) := by decide +kernel
theorem dL_told_0 : decode cL_told 0 = .ok (.ldc2_w 8, 3) := by decide +kernel
theorem dL_told_3 : decode cL_told 3 = .ok (.lstore_n 1, 1) := by decide +kernel
theorem dL_told_4 : decode cL_told 4 = .ok (.iconst 0, 1) := by decide +kernel
theorem dL_told_5 : decode cL_told 5 = .ok (.istore_n 3, 1) := by decide +kernel
theorem dL_told_6 : decode cL_told 6 = .ok (.iload_n 3, 1) := by decide +kernel
theorem dL_told_7 : decode cL_told 7 = .ok (.bipush 7, 2) := by decide +kernel
theorem dL_told_9 : decode cL_told 9 = .ok (.if_icmp .ge 22, 3) := by decide +kernel
theorem dL_told_12 : decode cL_told 12 = .ok (.ldc2_w 10, 3) := by decide +kernel
theorem dL_told_15 : decode cL_told 15 = .ok (.lload_n 1, 1) := by decide +kernel
theorem dL_told_16 : decode cL_told 16 = .ok (.lmul, 1) := by decide +kernel
theorem dL_told_17 : decode cL_told 17 = .ok (.aload_n 0, 1) := by decide +kernel
theorem dL_told_18 : decode cL_told 18 = .ok (.iload_n 3, 1) := by decide +kernel
theorem dL_told_19 : decode cL_told 19 = .ok (.invokevirtual 12, 3) := by decide +kernel
theorem dL_told_22 : decode cL_told 22 = .ok (.i2l, 1) := by decide +kernel
theorem dL_told_23 : decode cL_told 23 = .ok (.ladd, 1) := by decide +kernel
theorem dL_told_24 : decode cL_told 24 = .ok (.lstore_n 1, 1) := by decide +kernel
theorem dL_told_25 : decode cL_told 25 = .ok (.iinc 3 1, 3) := by decide +kernel
theorem dL_told_28 : decode cL_told 28 = .ok (.goto (-22), 3) := by decide +kernel
theorem dL_told_31 : decode cL_told 31 = .ok (.iconst 0, 1) := by decide +kernel
theorem dL_told_32 : decode cL_told 32 = .ok (.istore_n 3, 1) := by decide +kernel
theorem dL_told_33 : decode cL_told 33 = .ok (.iload_n 3, 1) := by decide +kernel
theorem dL_told_34 : decode cL_told 34 = .ok (.bipush 12, 2) := by decide +kernel
theorem dL_told_36 : decode cL_told 36 = .ok (.if_icmp .ge 22, 3) := by decide +kernel
theorem dL_told_39 : decode cL_told 39 = .ok (.ldc2_w 10, 3) := by decide +kernel
theorem dL_told_42 : decode cL_told 42 = .ok (.lload_n 1, 1) := by decide +kernel
theorem dL_told_43 : decode cL_told 43 = .ok (.lmul, 1) := by decide +kernel
theorem dL_told_44 : decode cL_told 44 = .ok (.aload_n 0, 1) := by decide +kernel
theorem dL_told_45 : decode cL_told 45 = .ok (.iload_n 3, 1) := by decide +kernel
theorem dL_told_46 : decode cL_told 46 = .ok (.invokevirtual 18, 3) := by decide +kernel
theorem dL_told_49 : decode cL_told 49 = .ok (.i2l, 1) := by decide +kernel
theorem dL_told_50 : decode cL_told 50 = .ok (.ladd, 1) := by decide +kernel
theorem dL_told_51 : decode cL_told 51 = .ok (.lstore_n 1, 1) := by decide +kernel
theorem dL_told_52 : decode cL_told 52 = .ok (.iinc 3 1, 3) := by decide +kernel
theorem dL_told_55 : decode cL_told 55 = .ok (.goto (-22), 3) := by decide +kernel
theorem dL_told_58 : decode cL_told 58 = .ok (.iconst 0, 1) := by decide +kernel
theorem dL_told_59 : decode cL_told 59 = .ok (.istore_n 3, 1) := by decide +kernel
theorem dL_told_60 : decode cL_told 60 = .ok (.iload_n 3, 1) := by decide +kernel
theorem dL_told_61 : decode cL_told 61 = .ok (.aload_n 0, 1) := by decide +kernel
theorem dL_told_62 : decode cL_told 62 = .ok (.iconst 1, 1) := by decide +kernel
theorem dL_told_63 : decode cL_told 63 = .ok (.invokevirtual 12, 3) := by decide +kernel
theorem dL_told_66 : decode cL_told 66 = .ok (.if_icmp .ge 47, 3) := by decide +kernel
theorem dL_told_69 : decode cL_told 69 = .ok (.ldc2_w 10, 3) := by decide +kernel
theorem dL_told_72 : decode cL_told 72 = .ok (.ldc2_w 10, 3) := by decide +kernel
theorem dL_told_75 : decode cL_told 75 = .ok (.ldc2_w 10, 3) := by decide +kernel
theorem dL_told_78 : decode cL_told 78 = .ok (.lload_n 1, 1) := by decide +kernel
theorem dL_told_79 : decode cL_told 79 = .ok (.lmul, 1) := by decide +kernel
theorem dL_told_80 : decode cL_told 80 = .ok (.aload_n 0, 1) := by decide +kernel
theorem dL_told_81 : decode cL_told 81 = .ok (.iload_n 3, 1) := by decide +kernel
theorem dL_told_82 : decode cL_told 82 = .ok (.iconst 0, 1) := by decide +kernel
theorem dL_told_83 : decode cL_told 83 = .ok (.invokevirtual 21, 3) := by decide +kernel
theorem dL_told_86 : decode cL_told 86 = .ok (.i2l, 1) := by decide +kernel
theorem dL_told_87 : decode cL_told 87 = .ok (.ladd, 1) := by decide +kernel
theorem dL_told_88 : decode cL_told 88 = .ok (.lmul, 1) := by decide +kernel
theorem dL_told_89 : decode cL_told 89 = .ok (.aload_n 0, 1) := by decide +kernel
theorem dL_told_90 : decode cL_told 90 = .ok (.iload_n 3, 1) := by decide +kernel
theorem dL_told_91 : decode cL_told 91 = .ok (.iconst 1, 1) := by decide +kernel
theorem dL_told_92 : decode cL_told 92 = .ok (.invokevirtual 21, 3) := by decide +kernel
theorem dL_told_95 : decode cL_told 95 = .ok (.i2l, 1) := by decide +kernel
theorem dL_told_96 : decode cL_told 96 = .ok (.ladd, 1) := by decide +kernel
theorem dL_told_97 : decode cL_told 97 = .ok (.lmul, 1) := by decide +kernel
theorem dL_told_98 : decode cL_told 98 = .ok (.aload_n 0, 1) := by decide +kernel
theorem dL_told_99 : decode cL_told 99 = .ok (.iload_n 3, 1) := by decide +kernel
theorem dL_told_100 : decode cL_told 100 = .ok (.iconst 2, 1) := by decide +kernel
theorem dL_told_101 : decode cL_told 101 = .ok (.invokevirtual 21, 3) := by decide +kernel
theorem dL_told_104 : decode cL_told 104 = .ok (.i2l, 1) := by decide +kernel
theorem dL_told_105 : decode cL_told 105 = .ok (.ladd, 1) := by decide +kernel
theorem dL_told_106 : decode cL_told 106 = .ok (.lstore_n 1, 1) := by decide +kernel
theorem dL_told_107 : decode cL_told 107 = .ok (.iinc 3 1, 3) := by decide +kernel
theorem dL_told_110 : decode cL_told 110 = .ok (.goto (-50), 3) := by decide +kernel
theorem dL_told_113 : decode cL_told 113 = .ok (.iconst 0, 1) := by decide +kernel
theorem dL_told_114 : decode cL_told 114 = .ok (.istore_n 3, 1) := by decide +kernel
theorem dL_told_115 : decode cL_told 115 = .ok (.iload_n 3, 1) := by decide +kernel
theorem dL_told_116 : decode cL_told 116 = .ok (.aload_n 0, 1) := by decide +kernel
theorem dL_told_117 : decode cL_told 117 = .ok (.iconst 2, 1) := by decide +kernel
theorem dL_told_118 : decode cL_told 118 = .ok (.invokevirtual 12, 3) := by decide +kernel
theorem dL_told_121 : decode cL_told 121 = .ok (.if_icmp .ge 47, 3) := by decide +kernel
theorem dL_told_124 : decode cL_told 124 = .ok (.ldc2_w 10, 3) := by decide +kernel
theorem dL_told_127 : decode cL_told 127 = .ok (.ldc2_w 10, 3) := by decide +kernel
theorem dL_told_130 : decode cL_told 130 = .ok (.ldc2_w 10, 3) := by decide +kernel
theorem dL_told_133 : decode cL_told 133 = .ok (.lload_n 1, 1) := by decide +kernel
theorem dL_told_134 : decode cL_told 134 = .ok (.lmul, 1) := by decide +kernel
theorem dL_told_135 : decode cL_told 135 = .ok (.aload_n 0, 1) := by decide +kernel
theorem dL_told_136 : decode cL_told 136 = .ok (.iload_n 3, 1) := by decide +kernel
theorem dL_told_137 : decode cL_told 137 = .ok (.iconst 0, 1) := by decide +kernel
theorem dL_told_138 : decode cL_told 138 = .ok (.invokevirtual 25, 3) := by decide +kernel
theorem dL_told_141 : decode cL_told 141 = .ok (.i2l, 1) := by decide +kernel
theorem dL_told_142 : decode cL_told 142 = .ok (.ladd, 1) := by decide +kernel
theorem dL_told_143 : decode cL_told 143 = .ok (.lmul, 1) := by decide +kernel
theorem dL_told_144 : decode cL_told 144 = .ok (.aload_n 0, 1) := by decide +kernel
theorem dL_told_145 : decode cL_told 145 = .ok (.iload_n 3, 1) := by decide +kernel
theorem dL_told_146 : decode cL_told 146 = .ok (.iconst 1, 1) := by decide +kernel
theorem dL_told_147 : decode cL_told 147 = .ok (.invokevirtual 25, 3) := by decide +kernel
theorem dL_told_150 : decode cL_told 150 = .ok (.i2l, 1) := by decide +kernel
theorem dL_told_151 : decode cL_told 151 = .ok (.ladd, 1) := by decide +kernel
theorem dL_told_152 : decode cL_told 152 = .ok (.lmul, 1) := by decide +kernel
theorem dL_told_153 : decode cL_told 153 = .ok (.aload_n 0, 1) := by decide +kernel
theorem dL_told_154 : decode cL_told 154 = .ok (.iload_n 3, 1) := by decide +kernel
theorem dL_told_155 : decode cL_told 155 = .ok (.iconst 2, 1) := by decide +kernel
theorem dL_told_156 : decode cL_told 156 = .ok (.invokevirtual 25, 3) := by decide +kernel
theorem dL_told_159 : decode cL_told 159 = .ok (.i2l, 1) := by decide +kernel
theorem dL_told_160 : decode cL_told 160 = .ok (.ladd, 1) := by decide +kernel
theorem dL_told_161 : decode cL_told 161 = .ok (.lstore_n 1, 1) := by decide +kernel
theorem dL_told_162 : decode cL_told 162 = .ok (.iinc 3 1, 3) := by decide +kernel
theorem dL_told_165 : decode cL_told 165 = .ok (.goto (-50), 3) := by decide +kernel
theorem dL_told_168 : decode cL_told 168 = .ok (.lload_n 1, 1) := by decide +kernel
theorem dL_told_169 : decode cL_told 169 = .ok (.lreturn, 1) := by decide +kernel
theorem dL_part_0 : decode cL_part 0 = .ok (.bipush 64, 2) := by decide +kernel
theorem dL_part_2 : decode cL_part 2 = .ok (.iload_n 0, 1) := by decide +kernel
theorem dL_part_3 : decode cL_part 3 = .ok (.iconst 4, 1) := by decide +kernel
theorem dL_part_4 : decode cL_part 4 = .ok (.invokestatic 28, 3) := by decide +kernel
theorem dL_part_7 : decode cL_part 7 = .ok (.imul, 1) := by decide +kernel
theorem dL_part_8 : decode cL_part 8 = .ok (.bipush 8, 2) := by decide +kernel
theorem dL_part_10 : decode cL_part 10 = .ok (.iload_n 0, 1) := by decide +kernel
theorem dL_part_11 : decode cL_part 11 = .ok (.iconst 2, 1) := by decide +kernel
theorem dL_part_12 : decode cL_part 12 = .ok (.ishr, 1) := by decide +kernel
theorem dL_part_13 : decode cL_part 13 = .ok (.bipush 8, 2) := by decide +kernel
theorem dL_part_15 : decode cL_part 15 = .ok (.invokestatic 28, 3) := by decide +kernel
theorem dL_part_18 : decode cL_part 18 = .ok (.imul, 1) := by decide +kernel
theorem dL_part_19 : decode cL_part 19 = .ok (.iadd, 1) := by decide +kernel
theorem dL_part_20 : decode cL_part 20 = .ok (.iload_n 0, 1) := by decide +kernel
theorem dL_part_21 : decode cL_part 21 = .ok (.iconst 5, 1) := by decide +kernel
theorem dL_part_22 : decode cL_part 22 = .ok (.ishr, 1) := by decide +kernel
theorem dL_part_23 : decode cL_part 23 = .ok (.bipush 8, 2) := by decide +kernel
theorem dL_part_25 : decode cL_part 25 = .ok (.invokestatic 28, 3) := by decide +kernel
theorem dL_part_28 : decode cL_part 28 = .ok (.iadd, 1) := by decide +kernel
theorem dL_part_29 : decode cL_part 29 = .ok (.ireturn, 1) := by decide +kernel
theorem dL_acts_0 : decode cL_acts 0 = .ok (.iload_n 2, 1) := by decide +kernel
theorem dL_acts_1 : decode cL_acts 1 = .ok (.iconst 2, 1) := by decide +kernel
theorem dL_acts_2 : decode cL_acts 2 = .ok (.ishr, 1) := by decide +kernel
theorem dL_acts_3 : decode cL_acts 3 = .ok (.iconst 5, 1) := by decide +kernel
theorem dL_acts_4 : decode cL_acts 4 = .ok (.invokestatic 28, 3) := by decide +kernel
theorem dL_acts_7 : decode cL_acts 7 = .ok (.istore_n 3, 1) := by decide +kernel
theorem dL_acts_8 : decode cL_acts 8 = .ok (.iload_n 2, 1) := by decide +kernel
theorem dL_acts_9 : decode cL_acts 9 = .ok (.iconst 5, 1) := by decide +kernel
theorem dL_acts_10 : decode cL_acts 10 = .ok (.ishr, 1) := by decide +kernel
theorem dL_acts_11 : decode cL_acts 11 = .ok (.iload_n 3, 1) := by decide +kernel
theorem dL_acts_12 : decode cL_acts 12 = .ok (.iconst 4, 1) := by decide +kernel
theorem dL_acts_13 : decode cL_acts 13 = .ok (.if_icmp .ne 8, 3) := by decide +kernel
theorem dL_acts_16 : decode cL_acts 16 = .ok (.bipush 6, 2) := by decide +kernel
theorem dL_acts_18 : decode cL_acts 18 = .ok (.goto 4, 3) := by decide +kernel
theorem dL_acts_21 : decode cL_acts 21 = .ok (.iconst 5, 1) := by decide +kernel
theorem dL_acts_22 : decode cL_acts 22 = .ok (.invokestatic 28, 3) := by decide +kernel
theorem dL_acts_25 : decode cL_acts 25 = .ok (.istore 4, 2) := by decide +kernel
theorem dL_acts_27 : decode cL_acts 27 = .ok (.iload_n 2, 1) := by decide +kernel
theorem dL_acts_28 : decode cL_acts 28 = .ok (.iconst 3, 1) := by decide +kernel
theorem dL_acts_29 : decode cL_acts 29 = .ok (.iand, 1) := by decide +kernel
theorem dL_acts_30 : decode cL_acts 30 = .ok (.istore 5, 2) := by decide +kernel
theorem dL_acts_32 : decode cL_acts 32 = .ok (.iload_n 1, 1) := by decide +kernel
theorem dL_acts_33 : decode cL_acts 33 = .ok (.bipush 7, 2) := by decide +kernel
theorem dL_acts_35 : decode cL_acts 35 = .ok (.iand, 1) := by decide +kernel
theorem dL_acts_36 : decode cL_acts 36 = .ok (.tableswitch 160 0 4 #[36, 48, 74, 104, 141], 36) := by decide +kernel
theorem dL_acts_72 : decode cL_acts 72 = .ok (.aload_n 0, 1) := by decide +kernel
theorem dL_acts_73 : decode cL_acts 73 = .ok (.iload 5, 2) := by decide +kernel
theorem dL_acts_75 : decode cL_acts 75 = .ok (.iload_n 3, 1) := by decide +kernel
theorem dL_acts_76 : decode cL_acts 76 = .ok (.iload 4, 2) := by decide +kernel
theorem dL_acts_78 : decode cL_acts 78 = .ok (.invokevirtual 33, 3) := by decide +kernel
theorem dL_acts_81 : decode cL_acts 81 = .ok (.pop, 1) := by decide +kernel
theorem dL_acts_82 : decode cL_acts 82 = .ok (.iconst 2, 1) := by decide +kernel
theorem dL_acts_83 : decode cL_acts 83 = .ok (.ireturn, 1) := by decide +kernel
theorem dL_acts_84 : decode cL_acts 84 = .ok (.aload_n 0, 1) := by decide +kernel
theorem dL_acts_85 : decode cL_acts 85 = .ok (.iconst 1, 1) := by decide +kernel
theorem dL_acts_86 : decode cL_acts 86 = .ok (.invokevirtual 12, 3) := by decide +kernel
theorem dL_acts_89 : decode cL_acts 89 = .ok (.ifCond .ne 5, 3) := by decide +kernel
theorem dL_acts_92 : decode cL_acts 92 = .ok (.iconst (-1), 1) := by decide +kernel
theorem dL_acts_93 : decode cL_acts 93 = .ok (.ireturn, 1) := by decide +kernel
theorem dL_acts_94 : decode cL_acts 94 = .ok (.aload_n 0, 1) := by decide +kernel
theorem dL_acts_95 : decode cL_acts 95 = .ok (.iload_n 2, 1) := by decide +kernel
theorem dL_acts_96 : decode cL_acts 96 = .ok (.aload_n 0, 1) := by decide +kernel
theorem dL_acts_97 : decode cL_acts 97 = .ok (.iconst 1, 1) := by decide +kernel
theorem dL_acts_98 : decode cL_acts 98 = .ok (.invokevirtual 12, 3) := by decide +kernel
theorem dL_acts_101 : decode cL_acts 101 = .ok (.invokestatic 28, 3) := by decide +kernel
theorem dL_acts_104 : decode cL_acts 104 = .ok (.invokevirtual 37, 3) := by decide +kernel
theorem dL_acts_107 : decode cL_acts 107 = .ok (.pop, 1) := by decide +kernel
theorem dL_acts_108 : decode cL_acts 108 = .ok (.iconst 2, 1) := by decide +kernel
theorem dL_acts_109 : decode cL_acts 109 = .ok (.ireturn, 1) := by decide +kernel
theorem dL_acts_110 : decode cL_acts 110 = .ok (.aload_n 0, 1) := by decide +kernel
theorem dL_acts_111 : decode cL_acts 111 = .ok (.iconst 1, 1) := by decide +kernel
theorem dL_acts_112 : decode cL_acts 112 = .ok (.invokevirtual 12, 3) := by decide +kernel
theorem dL_acts_115 : decode cL_acts 115 = .ok (.bipush 6, 2) := by decide +kernel
theorem dL_acts_117 : decode cL_acts 117 = .ok (.if_icmp .ne 5, 3) := by decide +kernel
theorem dL_acts_120 : decode cL_acts 120 = .ok (.iconst (-1), 1) := by decide +kernel
theorem dL_acts_121 : decode cL_acts 121 = .ok (.ireturn, 1) := by decide +kernel
theorem dL_acts_122 : decode cL_acts 122 = .ok (.aload_n 0, 1) := by decide +kernel
theorem dL_acts_123 : decode cL_acts 123 = .ok (.iload_n 2, 1) := by decide +kernel
theorem dL_acts_124 : decode cL_acts 124 = .ok (.invokestatic 40, 3) := by decide +kernel
theorem dL_acts_127 : decode cL_acts 127 = .ok (.iload_n 2, 1) := by decide +kernel
theorem dL_acts_128 : decode cL_acts 128 = .ok (.bipush 8, 2) := by decide +kernel
theorem dL_acts_130 : decode cL_acts 130 = .ok (.ishr, 1) := by decide +kernel
theorem dL_acts_131 : decode cL_acts 131 = .ok (.invokestatic 40, 3) := by decide +kernel
theorem dL_acts_134 : decode cL_acts 134 = .ok (.invokevirtual 43, 3) := by decide +kernel
theorem dL_acts_137 : decode cL_acts 137 = .ok (.pop, 1) := by decide +kernel
theorem dL_acts_138 : decode cL_acts 138 = .ok (.iconst 1, 1) := by decide +kernel
theorem dL_acts_139 : decode cL_acts 139 = .ok (.ireturn, 1) := by decide +kernel
theorem dL_acts_140 : decode cL_acts 140 = .ok (.aload_n 0, 1) := by decide +kernel
theorem dL_acts_141 : decode cL_acts 141 = .ok (.iconst 1, 1) := by decide +kernel
theorem dL_acts_142 : decode cL_acts 142 = .ok (.invokevirtual 12, 3) := by decide +kernel
theorem dL_acts_145 : decode cL_acts 145 = .ok (.bipush 6, 2) := by decide +kernel
theorem dL_acts_147 : decode cL_acts 147 = .ok (.if_icmp .ne 5, 3) := by decide +kernel
theorem dL_acts_150 : decode cL_acts 150 = .ok (.iconst (-1), 1) := by decide +kernel
theorem dL_acts_151 : decode cL_acts 151 = .ok (.ireturn, 1) := by decide +kernel
theorem dL_acts_152 : decode cL_acts 152 = .ok (.aload_n 0, 1) := by decide +kernel
theorem dL_acts_153 : decode cL_acts 153 = .ok (.iload_n 2, 1) := by decide +kernel
theorem dL_acts_154 : decode cL_acts 154 = .ok (.invokestatic 40, 3) := by decide +kernel
theorem dL_acts_157 : decode cL_acts 157 = .ok (.iload_n 2, 1) := by decide +kernel
theorem dL_acts_158 : decode cL_acts 158 = .ok (.bipush 8, 2) := by decide +kernel
theorem dL_acts_160 : decode cL_acts 160 = .ok (.ishr, 1) := by decide +kernel
theorem dL_acts_161 : decode cL_acts 161 = .ok (.invokestatic 40, 3) := by decide +kernel
theorem dL_acts_164 : decode cL_acts 164 = .ok (.iload_n 2, 1) := by decide +kernel
theorem dL_acts_165 : decode cL_acts 165 = .ok (.bipush 16, 2) := by decide +kernel
theorem dL_acts_167 : decode cL_acts 167 = .ok (.ishr, 1) := by decide +kernel
theorem dL_acts_168 : decode cL_acts 168 = .ok (.invokestatic 40, 3) := by decide +kernel
theorem dL_acts_171 : decode cL_acts 171 = .ok (.invokevirtual 46, 3) := by decide +kernel
theorem dL_acts_174 : decode cL_acts 174 = .ok (.pop, 1) := by decide +kernel
theorem dL_acts_175 : decode cL_acts 175 = .ok (.iconst 1, 1) := by decide +kernel
theorem dL_acts_176 : decode cL_acts 176 = .ok (.ireturn, 1) := by decide +kernel
theorem dL_acts_177 : decode cL_acts 177 = .ok (.aload_n 0, 1) := by decide +kernel
theorem dL_acts_178 : decode cL_acts 178 = .ok (.iconst 2, 1) := by decide +kernel
theorem dL_acts_179 : decode cL_acts 179 = .ok (.invokevirtual 12, 3) := by decide +kernel
theorem dL_acts_182 : decode cL_acts 182 = .ok (.bipush 12, 2) := by decide +kernel
theorem dL_acts_184 : decode cL_acts 184 = .ok (.if_icmp .le 5, 3) := by decide +kernel
theorem dL_acts_187 : decode cL_acts 187 = .ok (.iconst (-1), 1) := by decide +kernel
theorem dL_acts_188 : decode cL_acts 188 = .ok (.ireturn, 1) := by decide +kernel
theorem dL_acts_189 : decode cL_acts 189 = .ok (.aload_n 0, 1) := by decide +kernel
theorem dL_acts_190 : decode cL_acts 190 = .ok (.invokevirtual 49, 3) := by decide +kernel
theorem dL_acts_193 : decode cL_acts 193 = .ok (.pop, 1) := by decide +kernel
theorem dL_acts_194 : decode cL_acts 194 = .ok (.iconst 0, 1) := by decide +kernel
theorem dL_acts_195 : decode cL_acts 195 = .ok (.ireturn, 1) := by decide +kernel
theorem dL_acts_196 : decode cL_acts 196 = .ok (.aload_n 0, 1) := by decide +kernel
theorem dL_acts_197 : decode cL_acts 197 = .ok (.iconst 0, 1) := by decide +kernel
theorem dL_acts_198 : decode cL_acts 198 = .ok (.invokevirtual 12, 3) := by decide +kernel
theorem dL_acts_201 : decode cL_acts 201 = .ok (.bipush 12, 2) := by decide +kernel
theorem dL_acts_203 : decode cL_acts 203 = .ok (.if_icmp .ne 5, 3) := by decide +kernel
theorem dL_acts_206 : decode cL_acts 206 = .ok (.iconst (-1), 1) := by decide +kernel
theorem dL_acts_207 : decode cL_acts 207 = .ok (.ireturn, 1) := by decide +kernel
theorem dL_acts_208 : decode cL_acts 208 = .ok (.aload_n 0, 1) := by decide +kernel
theorem dL_acts_209 : decode cL_acts 209 = .ok (.iload 5, 2) := by decide +kernel
theorem dL_acts_211 : decode cL_acts 211 = .ok (.iload_n 3, 1) := by decide +kernel
theorem dL_acts_212 : decode cL_acts 212 = .ok (.iload 4, 2) := by decide +kernel
theorem dL_acts_214 : decode cL_acts 214 = .ok (.invokevirtual 53, 3) := by decide +kernel
theorem dL_acts_217 : decode cL_acts 217 = .ok (.pop, 1) := by decide +kernel
theorem dL_acts_218 : decode cL_acts 218 = .ok (.iconst 1, 1) := by decide +kernel
theorem dL_acts_219 : decode cL_acts 219 = .ok (.ireturn, 1) := by decide +kernel
theorem dL_holds_0 : decode cL_holds 0 = .ok (.iconst 0, 1) := by decide +kernel
theorem dL_holds_1 : decode cL_holds 1 = .ok (.istore_n 1, 1) := by decide +kernel
theorem dL_holds_2 : decode cL_holds 2 = .ok (.iconst 0, 1) := by decide +kernel
theorem dL_holds_3 : decode cL_holds 3 = .ok (.istore_n 2, 1) := by decide +kernel
theorem dL_holds_4 : decode cL_holds 4 = .ok (.iload_n 2, 1) := by decide +kernel
theorem dL_holds_5 : decode cL_holds 5 = .ok (.iconst 4, 1) := by decide +kernel
theorem dL_holds_6 : decode cL_holds 6 = .ok (.if_icmp .ge 126, 3) := by decide +kernel
theorem dL_holds_9 : decode cL_holds 9 = .ok (.aload_n 0, 1) := by decide +kernel
theorem dL_holds_10 : decode cL_holds 10 = .ok (.iload_n 2, 1) := by decide +kernel
theorem dL_holds_11 : decode cL_holds 11 = .ok (.iconst 4, 1) := by decide +kernel
theorem dL_holds_12 : decode cL_holds 12 = .ok (.iconst 5, 1) := by decide +kernel
theorem dL_holds_13 : decode cL_holds 13 = .ok (.invokevirtual 56, 3) := by decide +kernel
theorem dL_holds_16 : decode cL_holds 16 = .ok (.istore_n 3, 1) := by decide +kernel
theorem dL_holds_17 : decode cL_holds 17 = .ok (.iconst 0, 1) := by decide +kernel
theorem dL_holds_18 : decode cL_holds 18 = .ok (.istore 4, 2) := by decide +kernel
theorem dL_holds_20 : decode cL_holds 20 = .ok (.iload 4, 2) := by decide +kernel
theorem dL_holds_22 : decode cL_holds 22 = .ok (.bipush 16, 2) := by decide +kernel
theorem dL_holds_24 : decode cL_holds 24 = .ok (.if_icmp .ge 67, 3) := by decide +kernel
theorem dL_holds_27 : decode cL_holds 27 = .ok (.iload_n 3, 1) := by decide +kernel
theorem dL_holds_28 : decode cL_holds 28 = .ok (.iload 4, 2) := by decide +kernel
theorem dL_holds_30 : decode cL_holds 30 = .ok (.ishr, 1) := by decide +kernel
theorem dL_holds_31 : decode cL_holds 31 = .ok (.iconst 1, 1) := by decide +kernel
theorem dL_holds_32 : decode cL_holds 32 = .ok (.iand, 1) := by decide +kernel
theorem dL_holds_33 : decode cL_holds 33 = .ok (.iconst 1, 1) := by decide +kernel
theorem dL_holds_34 : decode cL_holds 34 = .ok (.if_icmp .ne 7, 3) := by decide +kernel
theorem dL_holds_37 : decode cL_holds 37 = .ok (.iconst 1, 1) := by decide +kernel
theorem dL_holds_38 : decode cL_holds 38 = .ok (.goto 4, 3) := by decide +kernel
theorem dL_holds_41 : decode cL_holds 41 = .ok (.iconst 0, 1) := by decide +kernel
theorem dL_holds_42 : decode cL_holds 42 = .ok (.istore 5, 2) := by decide +kernel
theorem dL_holds_44 : decode cL_holds 44 = .ok (.iload_n 1, 1) := by decide +kernel
theorem dL_holds_45 : decode cL_holds 45 = .ok (.iload 5, 2) := by decide +kernel
theorem dL_holds_47 : decode cL_holds 47 = .ok (.ifCond .eq 7, 3) := by decide +kernel
theorem dL_holds_50 : decode cL_holds 50 = .ok (.iconst 1, 1) := by decide +kernel
theorem dL_holds_51 : decode cL_holds 51 = .ok (.goto 4, 3) := by decide +kernel
theorem dL_holds_54 : decode cL_holds 54 = .ok (.iconst 0, 1) := by decide +kernel
theorem dL_holds_55 : decode cL_holds 55 = .ok (.iadd, 1) := by decide +kernel
theorem dL_holds_56 : decode cL_holds 56 = .ok (.istore_n 1, 1) := by decide +kernel
theorem dL_holds_57 : decode cL_holds 57 = .ok (.iload 5, 2) := by decide +kernel
theorem dL_holds_59 : decode cL_holds 59 = .ok (.aload_n 0, 1) := by decide +kernel
theorem dL_holds_60 : decode cL_holds 60 = .ok (.iload_n 2, 1) := by decide +kernel
theorem dL_holds_61 : decode cL_holds 61 = .ok (.iload 4, 2) := by decide +kernel
theorem dL_holds_63 : decode cL_holds 63 = .ok (.iconst 4, 1) := by decide +kernel
theorem dL_holds_64 : decode cL_holds 64 = .ok (.idiv, 1) := by decide +kernel
theorem dL_holds_65 : decode cL_holds 65 = .ok (.iload 4, 2) := by decide +kernel
theorem dL_holds_67 : decode cL_holds 67 = .ok (.iconst 4, 1) := by decide +kernel
theorem dL_holds_68 : decode cL_holds 68 = .ok (.irem, 1) := by decide +kernel
theorem dL_holds_69 : decode cL_holds 69 = .ok (.invokevirtual 59, 3) := by decide +kernel
theorem dL_holds_72 : decode cL_holds 72 = .ok (.ifCond .le 7, 3) := by decide +kernel
theorem dL_holds_75 : decode cL_holds 75 = .ok (.iconst 1, 1) := by decide +kernel
theorem dL_holds_76 : decode cL_holds 76 = .ok (.goto 4, 3) := by decide +kernel
theorem dL_holds_79 : decode cL_holds 79 = .ok (.iconst 0, 1) := by decide +kernel
theorem dL_holds_80 : decode cL_holds 80 = .ok (.if_icmp .eq 5, 3) := by decide +kernel
theorem dL_holds_83 : decode cL_holds 83 = .ok (.iconst 0, 1) := by decide +kernel
theorem dL_holds_84 : decode cL_holds 84 = .ok (.ireturn, 1) := by decide +kernel
theorem dL_holds_85 : decode cL_holds 85 = .ok (.iinc 4 1, 3) := by decide +kernel
theorem dL_holds_88 : decode cL_holds 88 = .ok (.goto (-68), 3) := by decide +kernel
theorem dL_holds_91 : decode cL_holds 91 = .ok (.aload_n 0, 1) := by decide +kernel
theorem dL_holds_92 : decode cL_holds 92 = .ok (.iload_n 2, 1) := by decide +kernel
theorem dL_holds_93 : decode cL_holds 93 = .ok (.iconst 4, 1) := by decide +kernel
theorem dL_holds_94 : decode cL_holds 94 = .ok (.iconst 5, 1) := by decide +kernel
theorem dL_holds_95 : decode cL_holds 95 = .ok (.invokevirtual 59, 3) := by decide +kernel
theorem dL_holds_98 : decode cL_holds 98 = .ok (.ifCond .le 9, 3) := by decide +kernel
theorem dL_holds_101 : decode cL_holds 101 = .ok (.iload_n 3, 1) := by decide +kernel
theorem dL_holds_102 : decode cL_holds 102 = .ok (.ldc 62, 2) := by decide +kernel
theorem dL_holds_104 : decode cL_holds 104 = .ok (.if_icmp .ne 20, 3) := by decide +kernel
theorem dL_holds_107 : decode cL_holds 107 = .ok (.aload_n 0, 1) := by decide +kernel
theorem dL_holds_108 : decode cL_holds 108 = .ok (.iload_n 2, 1) := by decide +kernel
theorem dL_holds_109 : decode cL_holds 109 = .ok (.iconst 4, 1) := by decide +kernel
theorem dL_holds_110 : decode cL_holds 110 = .ok (.iconst 4, 1) := by decide +kernel
theorem dL_holds_111 : decode cL_holds 111 = .ok (.invokevirtual 56, 3) := by decide +kernel
theorem dL_holds_114 : decode cL_holds 114 = .ok (.iload_n 3, 1) := by decide +kernel
theorem dL_holds_115 : decode cL_holds 115 = .ok (.ldc 63, 2) := by decide +kernel
theorem dL_holds_117 : decode cL_holds 117 = .ok (.iand, 1) := by decide +kernel
theorem dL_holds_118 : decode cL_holds 118 = .ok (.iconst (-1), 1) := by decide +kernel
theorem dL_holds_119 : decode cL_holds 119 = .ok (.ixor, 1) := by decide +kernel
theorem dL_holds_120 : decode cL_holds 120 = .ok (.iand, 1) := by decide +kernel
theorem dL_holds_121 : decode cL_holds 121 = .ok (.ifCond .eq 5, 3) := by decide +kernel
theorem dL_holds_124 : decode cL_holds 124 = .ok (.iconst 0, 1) := by decide +kernel
theorem dL_holds_125 : decode cL_holds 125 = .ok (.ireturn, 1) := by decide +kernel
theorem dL_holds_126 : decode cL_holds 126 = .ok (.iinc 2 1, 3) := by decide +kernel
theorem dL_holds_129 : decode cL_holds 129 = .ok (.goto (-125), 3) := by decide +kernel
theorem dL_holds_132 : decode cL_holds 132 = .ok (.aload_n 0, 1) := by decide +kernel
theorem dL_holds_133 : decode cL_holds 133 = .ok (.iconst 0, 1) := by decide +kernel
theorem dL_holds_134 : decode cL_holds 134 = .ok (.invokevirtual 12, 3) := by decide +kernel
theorem dL_holds_137 : decode cL_holds 137 = .ok (.istore_n 2, 1) := by decide +kernel
theorem dL_holds_138 : decode cL_holds 138 = .ok (.iconst 0, 1) := by decide +kernel
theorem dL_holds_139 : decode cL_holds 139 = .ok (.istore_n 3, 1) := by decide +kernel
theorem dL_holds_140 : decode cL_holds 140 = .ok (.iload_n 3, 1) := by decide +kernel
theorem dL_holds_141 : decode cL_holds 141 = .ok (.iload_n 2, 1) := by decide +kernel
theorem dL_holds_142 : decode cL_holds 142 = .ok (.if_icmp .ge 44, 3) := by decide +kernel
theorem dL_holds_145 : decode cL_holds 145 = .ok (.aload_n 0, 1) := by decide +kernel
theorem dL_holds_146 : decode cL_holds 146 = .ok (.iload_n 3, 1) := by decide +kernel
theorem dL_holds_147 : decode cL_holds 147 = .ok (.invokevirtual 18, 3) := by decide +kernel
theorem dL_holds_150 : decode cL_holds 150 = .ok (.istore 4, 2) := by decide +kernel
theorem dL_holds_152 : decode cL_holds 152 = .ok (.aload_n 0, 1) := by decide +kernel
theorem dL_holds_153 : decode cL_holds 153 = .ok (.iload 4, 2) := by decide +kernel
theorem dL_holds_155 : decode cL_holds 155 = .ok (.bipush 64, 2) := by decide +kernel
theorem dL_holds_157 : decode cL_holds 157 = .ok (.idiv, 1) := by decide +kernel
theorem dL_holds_158 : decode cL_holds 158 = .ok (.iload 4, 2) := by decide +kernel
theorem dL_holds_160 : decode cL_holds 160 = .ok (.bipush 8, 2) := by decide +kernel
theorem dL_holds_162 : decode cL_holds 162 = .ok (.idiv, 1) := by decide +kernel
theorem dL_holds_163 : decode cL_holds 163 = .ok (.bipush 8, 2) := by decide +kernel
theorem dL_holds_165 : decode cL_holds 165 = .ok (.irem, 1) := by decide +kernel
theorem dL_holds_166 : decode cL_holds 166 = .ok (.iload 4, 2) := by decide +kernel
theorem dL_holds_168 : decode cL_holds 168 = .ok (.bipush 8, 2) := by decide +kernel
theorem dL_holds_170 : decode cL_holds 170 = .ok (.irem, 1) := by decide +kernel
theorem dL_holds_171 : decode cL_holds 171 = .ok (.invokevirtual 59, 3) := by decide +kernel
theorem dL_holds_174 : decode cL_holds 174 = .ok (.iconst 1, 1) := by decide +kernel
theorem dL_holds_175 : decode cL_holds 175 = .ok (.if_icmp .ge 5, 3) := by decide +kernel
theorem dL_holds_178 : decode cL_holds 178 = .ok (.iconst 0, 1) := by decide +kernel
theorem dL_holds_179 : decode cL_holds 179 = .ok (.ireturn, 1) := by decide +kernel
theorem dL_holds_180 : decode cL_holds 180 = .ok (.iinc 3 1, 3) := by decide +kernel
theorem dL_holds_183 : decode cL_holds 183 = .ok (.goto (-43), 3) := by decide +kernel
theorem dL_holds_186 : decode cL_holds 186 = .ok (.aload_n 0, 1) := by decide +kernel
theorem dL_holds_187 : decode cL_holds 187 = .ok (.invokevirtual 64, 3) := by decide +kernel
theorem dL_holds_190 : decode cL_holds 190 = .ok (.dstore_n 3, 1) := by decide +kernel
theorem dL_holds_191 : decode cL_holds 191 = .ok (.iload_n 1, 1) := by decide +kernel
theorem dL_holds_192 : decode cL_holds 192 = .ok (.aload_n 0, 1) := by decide +kernel
theorem dL_holds_193 : decode cL_holds 193 = .ok (.bipush 6, 2) := by decide +kernel
theorem dL_holds_195 : decode cL_holds 195 = .ok (.invokevirtual 12, 3) := by decide +kernel
theorem dL_holds_198 : decode cL_holds 198 = .ok (.if_icmp .ne 70, 3) := by decide +kernel
theorem dL_holds_201 : decode cL_holds 201 = .ok (.aload_n 0, 1) := by decide +kernel
theorem dL_holds_202 : decode cL_holds 202 = .ok (.iconst 0, 1) := by decide +kernel
theorem dL_holds_203 : decode cL_holds 203 = .ok (.invokevirtual 68, 3) := by decide +kernel
theorem dL_holds_206 : decode cL_holds 206 = .ok (.iload_n 2, 1) := by decide +kernel
theorem dL_holds_207 : decode cL_holds 207 = .ok (.if_icmp .gt 61, 3) := by decide +kernel
theorem dL_holds_210 : decode cL_holds 210 = .ok (.aload_n 0, 1) := by decide +kernel
theorem dL_holds_211 : decode cL_holds 211 = .ok (.aload_n 0, 1) := by decide +kernel
theorem dL_holds_212 : decode cL_holds 212 = .ok (.iconst 3, 1) := by decide +kernel
theorem dL_holds_213 : decode cL_holds 213 = .ok (.invokevirtual 12, 3) := by decide +kernel
theorem dL_holds_216 : decode cL_holds 216 = .ok (.invokevirtual 68, 3) := by decide +kernel
theorem dL_holds_219 : decode cL_holds 219 = .ok (.aload_n 0, 1) := by decide +kernel
theorem dL_holds_220 : decode cL_holds 220 = .ok (.iconst 2, 1) := by decide +kernel
theorem dL_holds_221 : decode cL_holds 221 = .ok (.invokevirtual 12, 3) := by decide +kernel
theorem dL_holds_224 : decode cL_holds 224 = .ok (.if_icmp .ne 44, 3) := by decide +kernel
theorem dL_holds_227 : decode cL_holds 227 = .ok (.aload_n 0, 1) := by decide +kernel
theorem dL_holds_228 : decode cL_holds 228 = .ok (.iconst 2, 1) := by decide +kernel
theorem dL_holds_229 : decode cL_holds 229 = .ok (.invokevirtual 12, 3) := by decide +kernel
theorem dL_holds_232 : decode cL_holds 232 = .ok (.aload_n 0, 1) := by decide +kernel
theorem dL_holds_233 : decode cL_holds 233 = .ok (.iconst 5, 1) := by decide +kernel
theorem dL_holds_234 : decode cL_holds 234 = .ok (.invokevirtual 12, 3) := by decide +kernel
theorem dL_holds_237 : decode cL_holds 237 = .ok (.iadd, 1) := by decide +kernel
theorem dL_holds_238 : decode cL_holds 238 = .ok (.iload_n 2, 1) := by decide +kernel
theorem dL_holds_239 : decode cL_holds 239 = .ok (.if_icmp .lt 29, 3) := by decide +kernel
theorem dL_holds_242 : decode cL_holds 242 = .ok (.dload_n 3, 1) := by decide +kernel
theorem dL_holds_243 : decode cL_holds 243 = .ok (.dconst 0, 1) := by decide +kernel
theorem dL_holds_244 : decode cL_holds 244 = .ok (.dcmp .l, 1) := by decide +kernel
theorem dL_holds_245 : decode cL_holds 245 = .ok (.ifCond .lt 23, 3) := by decide +kernel
theorem dL_holds_248 : decode cL_holds 248 = .ok (.dload_n 3, 1) := by decide +kernel
theorem dL_holds_249 : decode cL_holds 249 = .ok (.dconst 1, 1) := by decide +kernel
theorem dL_holds_250 : decode cL_holds 250 = .ok (.dcmp .g, 1) := by decide +kernel
theorem dL_holds_251 : decode cL_holds 251 = .ok (.ifCond .ge 17, 3) := by decide +kernel
theorem dL_holds_254 : decode cL_holds 254 = .ok (.iload_n 1, 1) := by decide +kernel
theorem dL_holds_255 : decode cL_holds 255 = .ok (.ifCond .gt 9, 3) := by decide +kernel
theorem dL_holds_258 : decode cL_holds 258 = .ok (.dload_n 3, 1) := by decide +kernel
theorem dL_holds_259 : decode cL_holds 259 = .ok (.dconst 0, 1) := by decide +kernel
theorem dL_holds_260 : decode cL_holds 260 = .ok (.dcmp .l, 1) := by decide +kernel
theorem dL_holds_261 : decode cL_holds 261 = .ok (.ifCond .ne 7, 3) := by decide +kernel
theorem dL_holds_264 : decode cL_holds 264 = .ok (.iconst 1, 1) := by decide +kernel
theorem dL_holds_265 : decode cL_holds 265 = .ok (.goto 4, 3) := by decide +kernel
theorem dL_holds_268 : decode cL_holds 268 = .ok (.iconst 0, 1) := by decide +kernel
theorem dL_holds_269 : decode cL_holds 269 = .ok (.ireturn, 1) := by decide +kernel
theorem dL_law_0 : decode cL_law 0 = .ok (.new 13, 3) := by decide +kernel
theorem dL_law_3 : decode cL_law 3 = .ok (.dup, 1) := by decide +kernel
theorem dL_law_4 : decode cL_law 4 = .ok (.invokespecial 71, 3) := by decide +kernel
theorem dL_law_7 : decode cL_law 7 = .ok (.astore_n 1, 1) := by decide +kernel
theorem dL_law_8 : decode cL_law 8 = .ok (.iconst 0, 1) := by decide +kernel
theorem dL_law_9 : decode cL_law 9 = .ok (.istore_n 2, 1) := by decide +kernel
theorem dL_law_10 : decode cL_law 10 = .ok (.iload_n 2, 1) := by decide +kernel
theorem dL_law_11 : decode cL_law 11 = .ok (.bipush 16, 2) := by decide +kernel
theorem dL_law_13 : decode cL_law 13 = .ok (.if_icmp .ge 228, 3) := by decide +kernel
theorem dL_law_16 : decode cL_law 16 = .ok (.aload_n 0, 1) := by decide +kernel
theorem dL_law_17 : decode cL_law 17 = .ok (.iconst 2, 1) := by decide +kernel
theorem dL_law_18 : decode cL_law 18 = .ok (.iload_n 2, 1) := by decide +kernel
theorem dL_law_19 : decode cL_law 19 = .ok (.imul, 1) := by decide +kernel
theorem dL_law_20 : decode cL_law 20 = .ok (.invokestatic 72, 3) := by decide +kernel
theorem dL_law_23 : decode cL_law 23 = .ok (.istore_n 3, 1) := by decide +kernel
theorem dL_law_24 : decode cL_law 24 = .ok (.aload_n 0, 1) := by decide +kernel
theorem dL_law_25 : decode cL_law 25 = .ok (.iconst 2, 1) := by decide +kernel
theorem dL_law_26 : decode cL_law 26 = .ok (.iload_n 2, 1) := by decide +kernel
theorem dL_law_27 : decode cL_law 27 = .ok (.imul, 1) := by decide +kernel
theorem dL_law_28 : decode cL_law 28 = .ok (.iconst 1, 1) := by decide +kernel
theorem dL_law_29 : decode cL_law 29 = .ok (.iadd, 1) := by decide +kernel
theorem dL_law_30 : decode cL_law 30 = .ok (.invokestatic 72, 3) := by decide +kernel
theorem dL_law_33 : decode cL_law 33 = .ok (.istore 4, 2) := by decide +kernel
theorem dL_law_35 : decode cL_law 35 = .ok (.aload_n 1, 1) := by decide +kernel
theorem dL_law_36 : decode cL_law 36 = .ok (.bipush 7, 2) := by decide +kernel
theorem dL_law_38 : decode cL_law 38 = .ok (.invokevirtual 12, 3) := by decide +kernel
theorem dL_law_41 : decode cL_law 41 = .ok (.bipush 6, 2) := by decide +kernel
theorem dL_law_43 : decode cL_law 43 = .ok (.if_icmp .ne 13, 3) := by decide +kernel
theorem dL_law_46 : decode cL_law 46 = .ok (.aload_n 1, 1) := by decide +kernel
theorem dL_law_47 : decode cL_law 47 = .ok (.invokevirtual 76, 3) := by decide +kernel
theorem dL_law_50 : decode cL_law 50 = .ok (.pop, 1) := by decide +kernel
theorem dL_law_51 : decode cL_law 51 = .ok (.aload_n 1, 1) := by decide +kernel
theorem dL_law_52 : decode cL_law 52 = .ok (.invokevirtual 76, 3) := by decide +kernel
theorem dL_law_55 : decode cL_law 55 = .ok (.pop, 1) := by decide +kernel
theorem dL_law_56 : decode cL_law 56 = .ok (.aload_n 1, 1) := by decide +kernel
theorem dL_law_57 : decode cL_law 57 = .ok (.bipush 7, 2) := by decide +kernel
theorem dL_law_59 : decode cL_law 59 = .ok (.invokevirtual 12, 3) := by decide +kernel
theorem dL_law_62 : decode cL_law 62 = .ok (.istore 5, 2) := by decide +kernel
theorem dL_law_64 : decode cL_law 64 = .ok (.aload_n 1, 1) := by decide +kernel
theorem dL_law_65 : decode cL_law 65 = .ok (.bipush 6, 2) := by decide +kernel
theorem dL_law_67 : decode cL_law 67 = .ok (.invokevirtual 12, 3) := by decide +kernel
theorem dL_law_70 : decode cL_law 70 = .ok (.istore 6, 2) := by decide +kernel
theorem dL_law_72 : decode cL_law 72 = .ok (.aload_n 1, 1) := by decide +kernel
theorem dL_law_73 : decode cL_law 73 = .ok (.invokestatic 79, 3) := by decide +kernel
theorem dL_law_76 : decode cL_law 76 = .ok (.lstore 7, 2) := by decide +kernel
theorem dL_law_78 : decode cL_law 78 = .ok (.aload_n 1, 1) := by decide +kernel
theorem dL_law_79 : decode cL_law 79 = .ok (.iload_n 3, 1) := by decide +kernel
theorem dL_law_80 : decode cL_law 80 = .ok (.iload 4, 2) := by decide +kernel
theorem dL_law_82 : decode cL_law 82 = .ok (.invokestatic 82, 3) := by decide +kernel
theorem dL_law_85 : decode cL_law 85 = .ok (.istore 9, 2) := by decide +kernel
theorem dL_law_87 : decode cL_law 87 = .ok (.aload_n 1, 1) := by decide +kernel
theorem dL_law_88 : decode cL_law 88 = .ok (.invokestatic 79, 3) := by decide +kernel
theorem dL_law_91 : decode cL_law 91 = .ok (.lstore 10, 2) := by decide +kernel
theorem dL_law_93 : decode cL_law 93 = .ok (.aload_n 1, 1) := by decide +kernel
theorem dL_law_94 : decode cL_law 94 = .ok (.bipush 6, 2) := by decide +kernel
theorem dL_law_96 : decode cL_law 96 = .ok (.invokevirtual 12, 3) := by decide +kernel
theorem dL_law_99 : decode cL_law 99 = .ok (.istore 12, 2) := by decide +kernel
theorem dL_law_101 : decode cL_law 101 = .ok (.iload 9, 2) := by decide +kernel
theorem dL_law_103 : decode cL_law 103 = .ok (.ifCond .ge 14, 3) := by decide +kernel
theorem dL_law_106 : decode cL_law 106 = .ok (.lload 10, 2) := by decide +kernel
theorem dL_law_108 : decode cL_law 108 = .ok (.lload 7, 2) := by decide +kernel
theorem dL_law_110 : decode cL_law 110 = .ok (.lcmp, 1) := by decide +kernel
theorem dL_law_111 : decode cL_law 111 = .ok (.ifCond .eq 21, 3) := by decide +kernel
theorem dL_law_114 : decode cL_law 114 = .ok (.goto 16, 3) := by decide +kernel
theorem dL_law_117 : decode cL_law 117 = .ok (.aload_n 1, 1) := by decide +kernel
theorem dL_law_118 : decode cL_law 118 = .ok (.bipush 7, 2) := by decide +kernel
theorem dL_law_120 : decode cL_law 120 = .ok (.invokevirtual 12, 3) := by decide +kernel
theorem dL_law_123 : decode cL_law 123 = .ok (.iload 5, 2) := by decide +kernel
theorem dL_law_125 : decode cL_law 125 = .ok (.iconst 1, 1) := by decide +kernel
theorem dL_law_126 : decode cL_law 126 = .ok (.iadd, 1) := by decide +kernel
theorem dL_law_127 : decode cL_law 127 = .ok (.if_icmp .eq 5, 3) := by decide +kernel
theorem dL_law_130 : decode cL_law 130 = .ok (.iconst 0, 1) := by decide +kernel
theorem dL_law_131 : decode cL_law 131 = .ok (.ireturn, 1) := by decide +kernel
theorem dL_law_132 : decode cL_law 132 = .ok (.iload 9, 2) := by decide +kernel
theorem dL_law_134 : decode cL_law 134 = .ok (.iconst 1, 1) := by decide +kernel
theorem dL_law_135 : decode cL_law 135 = .ok (.if_icmp .eq 10, 3) := by decide +kernel
theorem dL_law_138 : decode cL_law 138 = .ok (.iload 12, 2) := by decide +kernel
theorem dL_law_140 : decode cL_law 140 = .ok (.iload 6, 2) := by decide +kernel
theorem dL_law_142 : decode cL_law 142 = .ok (.if_icmp .gt 16, 3) := by decide +kernel
theorem dL_law_145 : decode cL_law 145 = .ok (.iload 9, 2) := by decide +kernel
theorem dL_law_147 : decode cL_law 147 = .ok (.iconst 2, 1) := by decide +kernel
theorem dL_law_148 : decode cL_law 148 = .ok (.if_icmp .eq 12, 3) := by decide +kernel
theorem dL_law_151 : decode cL_law 151 = .ok (.iload 12, 2) := by decide +kernel
theorem dL_law_153 : decode cL_law 153 = .ok (.iload 6, 2) := by decide +kernel
theorem dL_law_155 : decode cL_law 155 = .ok (.if_icmp .ge 5, 3) := by decide +kernel
theorem dL_law_158 : decode cL_law 158 = .ok (.iconst 0, 1) := by decide +kernel
theorem dL_law_159 : decode cL_law 159 = .ok (.ireturn, 1) := by decide +kernel
theorem dL_law_160 : decode cL_law 160 = .ok (.iload 9, 2) := by decide +kernel
theorem dL_law_162 : decode cL_law 162 = .ok (.ifCond .lt 54, 3) := by decide +kernel
theorem dL_law_165 : decode cL_law 165 = .ok (.iload_n 3, 1) := by decide +kernel
theorem dL_law_166 : decode cL_law 166 = .ok (.iconst 3, 1) := by decide +kernel
theorem dL_law_167 : decode cL_law 167 = .ok (.ishr, 1) := by decide +kernel
theorem dL_law_168 : decode cL_law 168 = .ok (.iconst 1, 1) := by decide +kernel
theorem dL_law_169 : decode cL_law 169 = .ok (.iand, 1) := by decide +kernel
theorem dL_law_170 : decode cL_law 170 = .ok (.ifCond .ne 46, 3) := by decide +kernel
theorem dL_law_173 : decode cL_law 173 = .ok (.aload_n 1, 1) := by decide +kernel
theorem dL_law_174 : decode cL_law 174 = .ok (.invokevirtual 76, 3) := by decide +kernel
theorem dL_law_177 : decode cL_law 177 = .ok (.iload 5, 2) := by decide +kernel
theorem dL_law_179 : decode cL_law 179 = .ok (.if_icmp .ne 35, 3) := by decide +kernel
theorem dL_law_182 : decode cL_law 182 = .ok (.aload_n 1, 1) := by decide +kernel
theorem dL_law_183 : decode cL_law 183 = .ok (.invokestatic 79, 3) := by decide +kernel
theorem dL_law_186 : decode cL_law 186 = .ok (.lload 7, 2) := by decide +kernel
theorem dL_law_188 : decode cL_law 188 = .ok (.lcmp, 1) := by decide +kernel
theorem dL_law_189 : decode cL_law 189 = .ok (.ifCond .ne 25, 3) := by decide +kernel
theorem dL_law_192 : decode cL_law 192 = .ok (.aload_n 1, 1) := by decide +kernel
theorem dL_law_193 : decode cL_law 193 = .ok (.iload_n 3, 1) := by decide +kernel
theorem dL_law_194 : decode cL_law 194 = .ok (.iload 4, 2) := by decide +kernel
theorem dL_law_196 : decode cL_law 196 = .ok (.invokestatic 82, 3) := by decide +kernel
theorem dL_law_199 : decode cL_law 199 = .ok (.iload 9, 2) := by decide +kernel
theorem dL_law_201 : decode cL_law 201 = .ok (.if_icmp .ne 13, 3) := by decide +kernel
theorem dL_law_204 : decode cL_law 204 = .ok (.aload_n 1, 1) := by decide +kernel
theorem dL_law_205 : decode cL_law 205 = .ok (.invokestatic 79, 3) := by decide +kernel
theorem dL_law_208 : decode cL_law 208 = .ok (.lload 10, 2) := by decide +kernel
theorem dL_law_210 : decode cL_law 210 = .ok (.lcmp, 1) := by decide +kernel
theorem dL_law_211 : decode cL_law 211 = .ok (.ifCond .eq 5, 3) := by decide +kernel
theorem dL_law_214 : decode cL_law 214 = .ok (.iconst 0, 1) := by decide +kernel
theorem dL_law_215 : decode cL_law 215 = .ok (.ireturn, 1) := by decide +kernel
theorem dL_law_216 : decode cL_law 216 = .ok (.aload_n 1, 1) := by decide +kernel
theorem dL_law_217 : decode cL_law 217 = .ok (.invokestatic 86, 3) := by decide +kernel
theorem dL_law_220 : decode cL_law 220 = .ok (.ifCond .eq 13, 3) := by decide +kernel
theorem dL_law_223 : decode cL_law 223 = .ok (.aload_n 1, 1) := by decide +kernel
theorem dL_law_224 : decode cL_law 224 = .ok (.invokestatic 79, 3) := by decide +kernel
theorem dL_law_227 : decode cL_law 227 = .ok (.lload 10, 2) := by decide +kernel
theorem dL_law_229 : decode cL_law 229 = .ok (.lcmp, 1) := by decide +kernel
theorem dL_law_230 : decode cL_law 230 = .ok (.ifCond .eq 5, 3) := by decide +kernel
theorem dL_law_233 : decode cL_law 233 = .ok (.iconst 0, 1) := by decide +kernel
theorem dL_law_234 : decode cL_law 234 = .ok (.ireturn, 1) := by decide +kernel
theorem dL_law_235 : decode cL_law 235 = .ok (.iinc 2 1, 3) := by decide +kernel
theorem dL_law_238 : decode cL_law 238 = .ok (.goto (-228), 3) := by decide +kernel
theorem dL_law_241 : decode cL_law 241 = .ok (.aload_n 1, 1) := by decide +kernel
theorem dL_law_242 : decode cL_law 242 = .ok (.invokevirtual 90, 3) := by decide +kernel
theorem dL_law_245 : decode cL_law 245 = .ok (.aload_n 1, 1) := by decide +kernel
theorem dL_law_246 : decode cL_law 246 = .ok (.invokevirtual 90, 3) := by decide +kernel
theorem dL_law_249 : decode cL_law 249 = .ok (.lcmp, 1) := by decide +kernel
theorem dL_law_250 : decode cL_law 250 = .ok (.ifCond .ne 7, 3) := by decide +kernel
theorem dL_law_253 : decode cL_law 253 = .ok (.iconst 1, 1) := by decide +kernel
theorem dL_law_254 : decode cL_law 254 = .ok (.goto 4, 3) := by decide +kernel
theorem dL_law_257 : decode cL_law 257 = .ok (.iconst 0, 1) := by decide +kernel
theorem dL_law_258 : decode cL_law 258 = .ok (.ireturn, 1) := by decide +kernel
