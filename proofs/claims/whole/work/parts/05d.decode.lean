theorem dX8_hasRoom_157 : decode cX8_hasRoom 157 = .ok (.ifCond .ne 8, 3) := by decide +kernel
theorem dX8_hasRoom_160 : decode cX8_hasRoom 160 = .ok (.iload 5, 2) := by decide +kernel
theorem dX8_hasRoom_162 : decode cX8_hasRoom 162 = .ok (.ifCond .eq 7, 3) := by decide +kernel
theorem dX8_hasRoom_165 : decode cX8_hasRoom 165 = .ok (.iconst 0, 1) := by decide +kernel
theorem dX8_hasRoom_166 : decode cX8_hasRoom 166 = .ok (.goto 4, 3) := by decide +kernel
theorem dX8_hasRoom_169 : decode cX8_hasRoom 169 = .ok (.iconst 1, 1) := by decide +kernel
theorem dX8_hasRoom_170 : decode cX8_hasRoom 170 = .ok (.iadd, 1) := by decide +kernel
theorem dX8_hasRoom_171 : decode cX8_hasRoom 171 = .ok (.istore_n 2, 1) := by decide +kernel
theorem dX8_hasRoom_172 : decode cX8_hasRoom 172 = .ok (.iinc 3 1, 3) := by decide +kernel
theorem dX8_hasRoom_175 : decode cX8_hasRoom 175 = .ok (.goto (-159), 3) := by decide +kernel
theorem dX8_hasRoom_178 : decode cX8_hasRoom 178 = .ok (.iload_n 1, 1) := by decide +kernel
theorem dX8_hasRoom_179 : decode cX8_hasRoom 179 = .ok (.bipush 6, 2) := by decide +kernel
theorem dX8_hasRoom_181 : decode cX8_hasRoom 181 = .ok (.if_icmp .gt 13, 3) := by decide +kernel
theorem dX8_hasRoom_184 : decode cX8_hasRoom 184 = .ok (.iload_n 2, 1) := by decide +kernel
theorem dX8_hasRoom_185 : decode cX8_hasRoom 185 = .ok (.bipush 12, 2) := by decide +kernel
theorem dX8_hasRoom_187 : decode cX8_hasRoom 187 = .ok (.if_icmp .gt 7, 3) := by decide +kernel
theorem dX8_hasRoom_190 : decode cX8_hasRoom 190 = .ok (.iconst 1, 1) := by decide +kernel
theorem dX8_hasRoom_191 : decode cX8_hasRoom 191 = .ok (.goto 4, 3) := by decide +kernel
theorem dX8_hasRoom_194 : decode cX8_hasRoom 194 = .ok (.iconst 0, 1) := by decide +kernel
theorem dX8_hasRoom_195 : decode cX8_hasRoom 195 = .ok (.ireturn, 1) := by decide +kernel
theorem dX8_read_0 : decode cX8_read 0 = .ok (.aload_n 0, 1) := by decide +kernel
theorem dX8_read_1 : decode cX8_read 1 = .ok (.iconst 0, 1) := by decide +kernel
theorem dX8_read_2 : decode cX8_read 2 = .ok (.putfield 47, 3) := by decide +kernel
theorem dX8_read_5 : decode cX8_read 5 = .ok (.aload_n 0, 1) := by decide +kernel
theorem dX8_read_6 : decode cX8_read 6 = .ok (.invokevirtual 179, 3) := by decide +kernel
theorem dX8_read_9 : decode cX8_read 9 = .ok (.aload_n 0, 1) := by decide +kernel
theorem dX8_read_10 : decode cX8_read 10 = .ok (.getfield 157, 3) := by decide +kernel
theorem dX8_read_13 : decode cX8_read 13 = .ok (.ifCond .ne 9, 3) := by decide +kernel
theorem dX8_read_16 : decode cX8_read 16 = .ok (.aload_n 0, 1) := by decide +kernel
theorem dX8_read_17 : decode cX8_read 17 = .ok (.iconst 1, 1) := by decide +kernel
theorem dX8_read_18 : decode cX8_read 18 = .ok (.invokevirtual 131, 3) := by decide +kernel
theorem dX8_read_21 : decode cX8_read 21 = .ok (.ireturn, 1) := by decide +kernel
theorem dX8_read_22 : decode cX8_read 22 = .ok (.aload_n 0, 1) := by decide +kernel
theorem dX8_read_23 : decode cX8_read 23 = .ok (.invokevirtual 182, 3) := by decide +kernel
theorem dX8_read_26 : decode cX8_read 26 = .ok (.ifCond .ne 9, 3) := by decide +kernel
theorem dX8_read_29 : decode cX8_read 29 = .ok (.aload_n 0, 1) := by decide +kernel
theorem dX8_read_30 : decode cX8_read 30 = .ok (.iconst 2, 1) := by decide +kernel
theorem dX8_read_31 : decode cX8_read 31 = .ok (.invokevirtual 131, 3) := by decide +kernel
theorem dX8_read_34 : decode cX8_read 34 = .ok (.ireturn, 1) := by decide +kernel
theorem dX8_read_35 : decode cX8_read 35 = .ok (.aload_n 0, 1) := by decide +kernel
theorem dX8_read_36 : decode cX8_read 36 = .ok (.invokevirtual 138, 3) := by decide +kernel
theorem dX8_read_39 : decode cX8_read 39 = .ok (.aload_n 0, 1) := by decide +kernel
theorem dX8_read_40 : decode cX8_read 40 = .ok (.iconst 0, 1) := by decide +kernel
theorem dX8_read_41 : decode cX8_read 41 = .ok (.putfield 151, 3) := by decide +kernel
theorem dX8_read_44 : decode cX8_read 44 = .ok (.iconst 0, 1) := by decide +kernel
theorem dX8_read_45 : decode cX8_read 45 = .ok (.istore_n 1, 1) := by decide +kernel
theorem dX8_read_46 : decode cX8_read 46 = .ok (.iload_n 1, 1) := by decide +kernel
theorem dX8_read_47 : decode cX8_read 47 = .ok (.aload_n 0, 1) := by decide +kernel
theorem dX8_read_48 : decode cX8_read 48 = .ok (.getfield 173, 3) := by decide +kernel
theorem dX8_read_51 : decode cX8_read 51 = .ok (.if_icmp .ge 72, 3) := by decide +kernel
theorem dX8_read_54 : decode cX8_read 54 = .ok (.aload_n 0, 1) := by decide +kernel
theorem dX8_read_55 : decode cX8_read 55 = .ok (.getfield 44, 3) := by decide +kernel
theorem dX8_read_58 : decode cX8_read 58 = .ok (.iconst 3, 1) := by decide +kernel
theorem dX8_read_59 : decode cX8_read 59 = .ok (.iload_n 1, 1) := by decide +kernel
theorem dX8_read_60 : decode cX8_read 60 = .ok (.imul, 1) := by decide +kernel
theorem dX8_read_61 : decode cX8_read 61 = .ok (.iconst 1, 1) := by decide +kernel
theorem dX8_read_62 : decode cX8_read 62 = .ok (.iadd, 1) := by decide +kernel
theorem dX8_read_63 : decode cX8_read 63 = .ok (.iaload, 1) := by decide +kernel
theorem dX8_read_64 : decode cX8_read 64 = .ok (.iconst (-1), 1) := by decide +kernel
theorem dX8_read_65 : decode cX8_read 65 = .ok (.if_icmp .ne 20, 3) := by decide +kernel
theorem dX8_read_68 : decode cX8_read 68 = .ok (.aload_n 0, 1) := by decide +kernel
theorem dX8_read_69 : decode cX8_read 69 = .ok (.getfield 7, 3) := by decide +kernel
theorem dX8_read_72 : decode cX8_read 72 = .ok (.aload_n 0, 1) := by decide +kernel
theorem dX8_read_73 : decode cX8_read 73 = .ok (.getfield 44, 3) := by decide +kernel
theorem dX8_read_76 : decode cX8_read 76 = .ok (.iconst 3, 1) := by decide +kernel
theorem dX8_read_77 : decode cX8_read 77 = .ok (.iload_n 1, 1) := by decide +kernel
theorem dX8_read_78 : decode cX8_read 78 = .ok (.imul, 1) := by decide +kernel
theorem dX8_read_79 : decode cX8_read 79 = .ok (.iaload, 1) := by decide +kernel
theorem dX8_read_80 : decode cX8_read 80 = .ok (.iconst 1, 1) := by decide +kernel
theorem dX8_read_81 : decode cX8_read 81 = .ok (.iastore, 1) := by decide +kernel
theorem dX8_read_82 : decode cX8_read 82 = .ok (.goto 35, 3) := by decide +kernel
theorem dX8_read_85 : decode cX8_read 85 = .ok (.aload_n 0, 1) := by decide +kernel
theorem dX8_read_86 : decode cX8_read 86 = .ok (.aload_n 0, 1) := by decide +kernel
theorem dX8_read_87 : decode cX8_read 87 = .ok (.getfield 44, 3) := by decide +kernel
theorem dX8_read_90 : decode cX8_read 90 = .ok (.iconst 3, 1) := by decide +kernel
theorem dX8_read_91 : decode cX8_read 91 = .ok (.iload_n 1, 1) := by decide +kernel
theorem dX8_read_92 : decode cX8_read 92 = .ok (.imul, 1) := by decide +kernel
theorem dX8_read_93 : decode cX8_read 93 = .ok (.iaload, 1) := by decide +kernel
theorem dX8_read_94 : decode cX8_read 94 = .ok (.aload_n 0, 1) := by decide +kernel
theorem dX8_read_95 : decode cX8_read 95 = .ok (.getfield 44, 3) := by decide +kernel
theorem dX8_read_98 : decode cX8_read 98 = .ok (.iconst 3, 1) := by decide +kernel
theorem dX8_read_99 : decode cX8_read 99 = .ok (.iload_n 1, 1) := by decide +kernel
theorem dX8_read_100 : decode cX8_read 100 = .ok (.imul, 1) := by decide +kernel
theorem dX8_read_101 : decode cX8_read 101 = .ok (.iconst 1, 1) := by decide +kernel
theorem dX8_read_102 : decode cX8_read 102 = .ok (.iadd, 1) := by decide +kernel
theorem dX8_read_103 : decode cX8_read 103 = .ok (.iaload, 1) := by decide +kernel
theorem dX8_read_104 : decode cX8_read 104 = .ok (.aload_n 0, 1) := by decide +kernel
theorem dX8_read_105 : decode cX8_read 105 = .ok (.getfield 44, 3) := by decide +kernel
theorem dX8_read_108 : decode cX8_read 108 = .ok (.iconst 3, 1) := by decide +kernel
theorem dX8_read_109 : decode cX8_read 109 = .ok (.iload_n 1, 1) := by decide +kernel
theorem dX8_read_110 : decode cX8_read 110 = .ok (.imul, 1) := by decide +kernel
theorem dX8_read_111 : decode cX8_read 111 = .ok (.iconst 2, 1) := by decide +kernel
theorem dX8_read_112 : decode cX8_read 112 = .ok (.iadd, 1) := by decide +kernel
theorem dX8_read_113 : decode cX8_read 113 = .ok (.iaload, 1) := by decide +kernel
theorem dX8_read_114 : decode cX8_read 114 = .ok (.invokevirtual 141, 3) := by decide +kernel
theorem dX8_read_117 : decode cX8_read 117 = .ok (.iinc 1 1, 3) := by decide +kernel
theorem dX8_read_120 : decode cX8_read 120 = .ok (.goto (-74), 3) := by decide +kernel
theorem dX8_read_123 : decode cX8_read 123 = .ok (.aload_n 0, 1) := by decide +kernel
theorem dX8_read_124 : decode cX8_read 124 = .ok (.getfield 173, 3) := by decide +kernel
theorem dX8_read_127 : decode cX8_read 127 = .ok (.ireturn, 1) := by decide +kernel
theorem dX8_undo_0 : decode cX8_undo 0 = .ok (.aload_n 0, 1) := by decide +kernel
theorem dX8_undo_1 : decode cX8_undo 1 = .ok (.iconst 0, 1) := by decide +kernel
theorem dX8_undo_2 : decode cX8_undo 2 = .ok (.putfield 47, 3) := by decide +kernel
theorem dX8_undo_5 : decode cX8_undo 5 = .ok (.aload_n 0, 1) := by decide +kernel
theorem dX8_undo_6 : decode cX8_undo 6 = .ok (.getfield 51, 3) := by decide +kernel
theorem dX8_undo_9 : decode cX8_undo 9 = .ok (.ifCond .ne 9, 3) := by decide +kernel
theorem dX8_undo_12 : decode cX8_undo 12 = .ok (.aload_n 0, 1) := by decide +kernel
theorem dX8_undo_13 : decode cX8_undo 13 = .ok (.iconst 1, 1) := by decide +kernel
theorem dX8_undo_14 : decode cX8_undo 14 = .ok (.invokevirtual 131, 3) := by decide +kernel
theorem dX8_undo_17 : decode cX8_undo 17 = .ok (.ireturn, 1) := by decide +kernel
theorem dX8_undo_18 : decode cX8_undo 18 = .ok (.aload_n 0, 1) := by decide +kernel
theorem dX8_undo_19 : decode cX8_undo 19 = .ok (.dup, 1) := by decide +kernel
theorem dX8_undo_20 : decode cX8_undo 20 = .ok (.getfield 51, 3) := by decide +kernel
theorem dX8_undo_23 : decode cX8_undo 23 = .ok (.iconst 1, 1) := by decide +kernel
theorem dX8_undo_24 : decode cX8_undo 24 = .ok (.isub, 1) := by decide +kernel
theorem dX8_undo_25 : decode cX8_undo 25 = .ok (.putfield 51, 3) := by decide +kernel
theorem dX8_undo_28 : decode cX8_undo 28 = .ok (.iconst 0, 1) := by decide +kernel
theorem dX8_undo_29 : decode cX8_undo 29 = .ok (.istore_n 1, 1) := by decide +kernel
theorem dX8_undo_30 : decode cX8_undo 30 = .ok (.iload_n 1, 1) := by decide +kernel
theorem dX8_undo_31 : decode cX8_undo 31 = .ok (.sipush 275, 3) := by decide +kernel
theorem dX8_undo_34 : decode cX8_undo 34 = .ok (.if_icmp .ge 30, 3) := by decide +kernel
theorem dX8_undo_37 : decode cX8_undo 37 = .ok (.aload_n 0, 1) := by decide +kernel
theorem dX8_undo_38 : decode cX8_undo 38 = .ok (.getfield 7, 3) := by decide +kernel
theorem dX8_undo_41 : decode cX8_undo 41 = .ok (.iload_n 1, 1) := by decide +kernel
theorem dX8_undo_42 : decode cX8_undo 42 = .ok (.aload_n 0, 1) := by decide +kernel
theorem dX8_undo_43 : decode cX8_undo 43 = .ok (.getfield 13, 3) := by decide +kernel
theorem dX8_undo_46 : decode cX8_undo 46 = .ok (.sipush 275, 3) := by decide +kernel
theorem dX8_undo_49 : decode cX8_undo 49 = .ok (.aload_n 0, 1) := by decide +kernel
theorem dX8_undo_50 : decode cX8_undo 50 = .ok (.getfield 51, 3) := by decide +kernel
theorem dX8_undo_53 : decode cX8_undo 53 = .ok (.imul, 1) := by decide +kernel
theorem dX8_undo_54 : decode cX8_undo 54 = .ok (.iload_n 1, 1) := by decide +kernel
theorem dX8_undo_55 : decode cX8_undo 55 = .ok (.iadd, 1) := by decide +kernel
theorem dX8_undo_56 : decode cX8_undo 56 = .ok (.iaload, 1) := by decide +kernel
theorem dX8_undo_57 : decode cX8_undo 57 = .ok (.iastore, 1) := by decide +kernel
theorem dX8_undo_58 : decode cX8_undo 58 = .ok (.iinc 1 1, 3) := by decide +kernel
theorem dX8_undo_61 : decode cX8_undo 61 = .ok (.goto (-31), 3) := by decide +kernel
theorem dX8_undo_64 : decode cX8_undo 64 = .ok (.aload_n 0, 1) := by decide +kernel
theorem dX8_undo_65 : decode cX8_undo 65 = .ok (.getfield 51, 3) := by decide +kernel
theorem dX8_undo_68 : decode cX8_undo 68 = .ok (.ireturn, 1) := by decide +kernel
theorem dX8_told_0 : decode cX8_told 0 = .ok (.aload_n 0, 1) := by decide +kernel
theorem dX8_told_1 : decode cX8_told 1 = .ok (.iconst 0, 1) := by decide +kernel
theorem dX8_told_2 : decode cX8_told 2 = .ok (.putfield 47, 3) := by decide +kernel
theorem dX8_told_5 : decode cX8_told 5 = .ok (.iload_n 1, 1) := by decide +kernel
theorem dX8_told_6 : decode cX8_told 6 = .ok (.ifCond .ge 11, 3) := by decide +kernel
theorem dX8_told_9 : decode cX8_told 9 = .ok (.aload_n 0, 1) := by decide +kernel
theorem dX8_told_10 : decode cX8_told 10 = .ok (.iconst 1, 1) := by decide +kernel
theorem dX8_told_11 : decode cX8_told 11 = .ok (.invokevirtual 131, 3) := by decide +kernel
theorem dX8_told_14 : decode cX8_told 14 = .ok (.goto 8, 3) := by decide +kernel
theorem dX8_told_17 : decode cX8_told 17 = .ok (.aload_n 0, 1) := by decide +kernel
theorem dX8_told_18 : decode cX8_told 18 = .ok (.iload_n 1, 1) := by decide +kernel
theorem dX8_told_19 : decode cX8_told 19 = .ok (.invokevirtual 186, 3) := by decide +kernel
theorem dX8_told_22 : decode cX8_told 22 = .ok (.ireturn, 1) := by decide +kernel
theorem dX8_partOf_0 : decode cX8_partOf 0 = .ok (.aload_n 0, 1) := by decide +kernel
theorem dX8_partOf_1 : decode cX8_partOf 1 = .ok (.iconst 0, 1) := by decide +kernel
theorem dX8_partOf_2 : decode cX8_partOf 2 = .ok (.putfield 47, 3) := by decide +kernel
theorem dX8_partOf_5 : decode cX8_partOf 5 = .ok (.iload_n 1, 1) := by decide +kernel
theorem dX8_partOf_6 : decode cX8_partOf 6 = .ok (.iconst 0, 1) := by decide +kernel
theorem dX8_partOf_7 : decode cX8_partOf 7 = .ok (.aload_n 0, 1) := by decide +kernel
theorem dX8_partOf_8 : decode cX8_partOf 8 = .ok (.getfield 7, 3) := by decide +kernel
theorem dX8_partOf_11 : decode cX8_partOf 11 = .ok (.sipush 256, 3) := by decide +kernel
theorem dX8_partOf_14 : decode cX8_partOf 14 = .ok (.iaload, 1) := by decide +kernel
theorem dX8_partOf_15 : decode cX8_partOf 15 = .ok (.iconst 1, 1) := by decide +kernel
theorem dX8_partOf_16 : decode cX8_partOf 16 = .ok (.isub, 1) := by decide +kernel
theorem dX8_partOf_17 : decode cX8_partOf 17 = .ok (.invokestatic 54, 3) := by decide +kernel
theorem dX8_partOf_20 : decode cX8_partOf 20 = .ok (.ifCond .ne 9, 3) := by decide +kernel
theorem dX8_partOf_23 : decode cX8_partOf 23 = .ok (.aload_n 0, 1) := by decide +kernel
theorem dX8_partOf_24 : decode cX8_partOf 24 = .ok (.iconst 1, 1) := by decide +kernel
theorem dX8_partOf_25 : decode cX8_partOf 25 = .ok (.invokevirtual 131, 3) := by decide +kernel
theorem dX8_partOf_28 : decode cX8_partOf 28 = .ok (.ireturn, 1) := by decide +kernel
theorem dX8_partOf_29 : decode cX8_partOf 29 = .ok (.iload_n 2, 1) := by decide +kernel
theorem dX8_partOf_30 : decode cX8_partOf 30 = .ok (.iconst 0, 1) := by decide +kernel
theorem dX8_partOf_31 : decode cX8_partOf 31 = .ok (.iconst 2, 1) := by decide +kernel
theorem dX8_partOf_32 : decode cX8_partOf 32 = .ok (.invokestatic 54, 3) := by decide +kernel
theorem dX8_partOf_35 : decode cX8_partOf 35 = .ok (.ifCond .eq 20, 3) := by decide +kernel
theorem dX8_partOf_38 : decode cX8_partOf 38 = .ok (.aload_n 0, 1) := by decide +kernel
theorem dX8_partOf_39 : decode cX8_partOf 39 = .ok (.getfield 7, 3) := by decide +kernel
theorem dX8_partOf_42 : decode cX8_partOf 42 = .ok (.sipush 257, 3) := by decide +kernel
theorem dX8_partOf_45 : decode cX8_partOf 45 = .ok (.iconst 3, 1) := by decide +kernel
theorem dX8_partOf_46 : decode cX8_partOf 46 = .ok (.iload_n 1, 1) := by decide +kernel
theorem dX8_partOf_47 : decode cX8_partOf 47 = .ok (.imul, 1) := by decide +kernel
theorem dX8_partOf_48 : decode cX8_partOf 48 = .ok (.iadd, 1) := by decide +kernel
theorem dX8_partOf_49 : decode cX8_partOf 49 = .ok (.iload_n 2, 1) := by decide +kernel
theorem dX8_partOf_50 : decode cX8_partOf 50 = .ok (.iadd, 1) := by decide +kernel
theorem dX8_partOf_51 : decode cX8_partOf 51 = .ok (.iaload, 1) := by decide +kernel
theorem dX8_partOf_52 : decode cX8_partOf 52 = .ok (.goto 8, 3) := by decide +kernel
theorem dX8_partOf_55 : decode cX8_partOf 55 = .ok (.aload_n 0, 1) := by decide +kernel
theorem dX8_partOf_56 : decode cX8_partOf 56 = .ok (.iconst 2, 1) := by decide +kernel
theorem dX8_partOf_57 : decode cX8_partOf 57 = .ok (.invokevirtual 131, 3) := by decide +kernel
theorem dX8_partOf_60 : decode cX8_partOf 60 = .ok (.ireturn, 1) := by decide +kernel
theorem dX8_tellsFound_0 : decode cX8_tellsFound 0 = .ok (.aload_n 0, 1) := by decide +kernel
theorem dX8_tellsFound_1 : decode cX8_tellsFound 1 = .ok (.iload_n 1, 1) := by decide +kernel
theorem dX8_tellsFound_2 : decode cX8_tellsFound 2 = .ok (.invokevirtual 189, 3) := by decide +kernel
theorem dX8_tellsFound_5 : decode cX8_tellsFound 5 = .ok (.istore_n 3, 1) := by decide +kernel
theorem dX8_tellsFound_6 : decode cX8_tellsFound 6 = .ok (.iload_n 3, 1) := by decide +kernel
theorem dX8_tellsFound_7 : decode cX8_tellsFound 7 = .ok (.iconst (-1), 1) := by decide +kernel
theorem dX8_tellsFound_8 : decode cX8_tellsFound 8 = .ok (.if_icmp .eq 7, 3) := by decide +kernel
theorem dX8_tellsFound_11 : decode cX8_tellsFound 11 = .ok (.iload_n 2, 1) := by decide +kernel
theorem dX8_tellsFound_12 : decode cX8_tellsFound 12 = .ok (.ifCond .ne 5, 3) := by decide +kernel
theorem dX8_tellsFound_15 : decode cX8_tellsFound 15 = .ok (.iload_n 3, 1) := by decide +kernel
theorem dX8_tellsFound_16 : decode cX8_tellsFound 16 = .ok (.ireturn, 1) := by decide +kernel
theorem dX8_tellsFound_17 : decode cX8_tellsFound 17 = .ok (.iload_n 2, 1) := by decide +kernel
theorem dX8_tellsFound_18 : decode cX8_tellsFound 18 = .ok (.iconst 1, 1) := by decide +kernel
theorem dX8_tellsFound_19 : decode cX8_tellsFound 19 = .ok (.if_icmp .ne 12, 3) := by decide +kernel
theorem dX8_tellsFound_22 : decode cX8_tellsFound 22 = .ok (.aload_n 0, 1) := by decide +kernel
theorem dX8_tellsFound_23 : decode cX8_tellsFound 23 = .ok (.getfield 23, 3) := by decide +kernel
theorem dX8_tellsFound_26 : decode cX8_tellsFound 26 = .ok (.iload_n 3, 1) := by decide +kernel
theorem dX8_tellsFound_27 : decode cX8_tellsFound 27 = .ok (.iaload, 1) := by decide +kernel
theorem dX8_tellsFound_28 : decode cX8_tellsFound 28 = .ok (.goto 21, 3) := by decide +kernel
theorem dX8_tellsFound_31 : decode cX8_tellsFound 31 = .ok (.iload_n 2, 1) := by decide +kernel
theorem dX8_tellsFound_32 : decode cX8_tellsFound 32 = .ok (.iconst 2, 1) := by decide +kernel
theorem dX8_tellsFound_33 : decode cX8_tellsFound 33 = .ok (.if_icmp .ne 12, 3) := by decide +kernel
theorem dX8_tellsFound_36 : decode cX8_tellsFound 36 = .ok (.aload_n 0, 1) := by decide +kernel
theorem dX8_tellsFound_37 : decode cX8_tellsFound 37 = .ok (.getfield 26, 3) := by decide +kernel
theorem dX8_tellsFound_40 : decode cX8_tellsFound 40 = .ok (.iload_n 3, 1) := by decide +kernel
theorem dX8_tellsFound_41 : decode cX8_tellsFound 41 = .ok (.iaload, 1) := by decide +kernel
theorem dX8_tellsFound_42 : decode cX8_tellsFound 42 = .ok (.goto 7, 3) := by decide +kernel
theorem dX8_tellsFound_45 : decode cX8_tellsFound 45 = .ok (.iload_n 3, 1) := by decide +kernel
theorem dX8_tellsFound_46 : decode cX8_tellsFound 46 = .ok (.invokestatic 192, 3) := by decide +kernel
theorem dX8_tellsFound_49 : decode cX8_tellsFound 49 = .ok (.ireturn, 1) := by decide +kernel
theorem dX8_found_0 : decode cX8_found 0 = .ok (.aload_n 0, 1) := by decide +kernel
theorem dX8_found_1 : decode cX8_found 1 = .ok (.iconst 0, 1) := by decide +kernel
theorem dX8_found_2 : decode cX8_found 2 = .ok (.putfield 47, 3) := by decide +kernel
theorem dX8_found_5 : decode cX8_found 5 = .ok (.iload_n 1, 1) := by decide +kernel
theorem dX8_found_6 : decode cX8_found 6 = .ok (.ifCond .lt 12, 3) := by decide +kernel
theorem dX8_found_9 : decode cX8_found 9 = .ok (.iload_n 2, 1) := by decide +kernel
theorem dX8_found_10 : decode cX8_found 10 = .ok (.iconst 0, 1) := by decide +kernel
theorem dX8_found_11 : decode cX8_found 11 = .ok (.iconst 3, 1) := by decide +kernel
theorem dX8_found_12 : decode cX8_found 12 = .ok (.invokestatic 54, 3) := by decide +kernel
theorem dX8_found_15 : decode cX8_found 15 = .ok (.ifCond .ne 9, 3) := by decide +kernel
theorem dX8_found_18 : decode cX8_found 18 = .ok (.aload_n 0, 1) := by decide +kernel
theorem dX8_found_19 : decode cX8_found 19 = .ok (.iconst 1, 1) := by decide +kernel
theorem dX8_found_20 : decode cX8_found 20 = .ok (.invokevirtual 131, 3) := by decide +kernel
theorem dX8_found_23 : decode cX8_found 23 = .ok (.ireturn, 1) := by decide +kernel
theorem dX8_found_24 : decode cX8_found 24 = .ok (.aload_n 0, 1) := by decide +kernel
theorem dX8_found_25 : decode cX8_found 25 = .ok (.invokevirtual 148, 3) := by decide +kernel
theorem dX8_found_28 : decode cX8_found 28 = .ok (.aload_n 0, 1) := by decide +kernel
theorem dX8_found_29 : decode cX8_found 29 = .ok (.iload_n 1, 1) := by decide +kernel
theorem dX8_found_30 : decode cX8_found 30 = .ok (.iload_n 2, 1) := by decide +kernel
theorem dX8_found_31 : decode cX8_found 31 = .ok (.invokevirtual 195, 3) := by decide +kernel
theorem dX8_found_34 : decode cX8_found 34 = .ok (.ireturn, 1) := by decide +kernel
theorem dX8_counts_0 : decode cX8_counts 0 = .ok (.aload_n 0, 1) := by decide +kernel
theorem dX8_counts_1 : decode cX8_counts 1 = .ok (.invokevirtual 148, 3) := by decide +kernel
theorem dX8_counts_4 : decode cX8_counts 4 = .ok (.iload_n 1, 1) := by decide +kernel
theorem dX8_counts_5 : decode cX8_counts 5 = .ok (.tableswitch 82 0 6 #[43, 48, 57, 62, 67, 72, 77], 43) := by decide +kernel
theorem dX8_counts_48 : decode cX8_counts 48 = .ok (.aload_n 0, 1) := by decide +kernel
theorem dX8_counts_49 : decode cX8_counts 49 = .ok (.invokevirtual 134, 3) := by decide +kernel
theorem dX8_counts_52 : decode cX8_counts 52 = .ok (.ireturn, 1) := by decide +kernel
theorem dX8_counts_53 : decode cX8_counts 53 = .ok (.aload_n 0, 1) := by decide +kernel
theorem dX8_counts_54 : decode cX8_counts 54 = .ok (.getfield 7, 3) := by decide +kernel
theorem dX8_counts_57 : decode cX8_counts 57 = .ok (.sipush 256, 3) := by decide +kernel
theorem dX8_counts_60 : decode cX8_counts 60 = .ok (.iaload, 1) := by decide +kernel
theorem dX8_counts_61 : decode cX8_counts 61 = .ok (.ireturn, 1) := by decide +kernel
theorem dX8_counts_62 : decode cX8_counts 62 = .ok (.aload_n 0, 1) := by decide +kernel
theorem dX8_counts_63 : decode cX8_counts 63 = .ok (.getfield 86, 3) := by decide +kernel
theorem dX8_counts_66 : decode cX8_counts 66 = .ok (.ireturn, 1) := by decide +kernel
theorem dX8_counts_67 : decode cX8_counts 67 = .ok (.aload_n 0, 1) := by decide +kernel
theorem dX8_counts_68 : decode cX8_counts 68 = .ok (.getfield 112, 3) := by decide +kernel
theorem dX8_counts_71 : decode cX8_counts 71 = .ok (.ireturn, 1) := by decide +kernel
theorem dX8_counts_72 : decode cX8_counts 72 = .ok (.aload_n 0, 1) := by decide +kernel
theorem dX8_counts_73 : decode cX8_counts 73 = .ok (.getfield 89, 3) := by decide +kernel
theorem dX8_counts_76 : decode cX8_counts 76 = .ok (.ireturn, 1) := by decide +kernel
theorem dX8_counts_77 : decode cX8_counts 77 = .ok (.aload_n 0, 1) := by decide +kernel
theorem dX8_counts_78 : decode cX8_counts 78 = .ok (.getfield 83, 3) := by decide +kernel
theorem dX8_counts_81 : decode cX8_counts 81 = .ok (.ireturn, 1) := by decide +kernel
theorem dX8_counts_82 : decode cX8_counts 82 = .ok (.aload_n 0, 1) := by decide +kernel
theorem dX8_counts_83 : decode cX8_counts 83 = .ok (.invokevirtual 198, 3) := by decide +kernel
theorem dX8_counts_86 : decode cX8_counts 86 = .ok (.ireturn, 1) := by decide +kernel
theorem dX8_counts_87 : decode cX8_counts 87 = .ok (.aload_n 0, 1) := by decide +kernel
theorem dX8_counts_88 : decode cX8_counts 88 = .ok (.getfield 51, 3) := by decide +kernel
theorem dX8_counts_91 : decode cX8_counts 91 = .ok (.ireturn, 1) := by decide +kernel
theorem dX8_count_0 : decode cX8_count 0 = .ok (.aload_n 0, 1) := by decide +kernel
theorem dX8_count_1 : decode cX8_count 1 = .ok (.iconst 0, 1) := by decide +kernel
theorem dX8_count_2 : decode cX8_count 2 = .ok (.putfield 47, 3) := by decide +kernel
theorem dX8_count_5 : decode cX8_count 5 = .ok (.iload_n 1, 1) := by decide +kernel
theorem dX8_count_6 : decode cX8_count 6 = .ok (.iconst 0, 1) := by decide +kernel
theorem dX8_count_7 : decode cX8_count 7 = .ok (.bipush 7, 2) := by decide +kernel
theorem dX8_count_9 : decode cX8_count 9 = .ok (.invokestatic 54, 3) := by decide +kernel
theorem dX8_count_12 : decode cX8_count 12 = .ok (.ifCond .eq 11, 3) := by decide +kernel
theorem dX8_count_15 : decode cX8_count 15 = .ok (.aload_n 0, 1) := by decide +kernel
theorem dX8_count_16 : decode cX8_count 16 = .ok (.iload_n 1, 1) := by decide +kernel
theorem dX8_count_17 : decode cX8_count 17 = .ok (.invokevirtual 201, 3) := by decide +kernel
theorem dX8_count_20 : decode cX8_count 20 = .ok (.goto 8, 3) := by decide +kernel
theorem dX8_count_23 : decode cX8_count 23 = .ok (.aload_n 0, 1) := by decide +kernel
theorem dX8_count_24 : decode cX8_count 24 = .ok (.iconst 1, 1) := by decide +kernel
theorem dX8_count_25 : decode cX8_count 25 = .ok (.invokevirtual 131, 3) := by decide +kernel
theorem dX8_count_28 : decode cX8_count 28 = .ok (.ireturn, 1) := by decide +kernel
theorem dX8_following_0 : decode cX8_following 0 = .ok (.aload_n 0, 1) := by decide +kernel
theorem dX8_following_1 : decode cX8_following 1 = .ok (.invokevirtual 148, 3) := by decide +kernel
theorem dX8_following_4 : decode cX8_following 4 = .ok (.aload_n 0, 1) := by decide +kernel
theorem dX8_following_5 : decode cX8_following 5 = .ok (.getfield 19, 3) := by decide +kernel
theorem dX8_following_8 : decode cX8_following 8 = .ok (.iload_n 1, 1) := by decide +kernel
theorem dX8_following_9 : decode cX8_following 9 = .ok (.baload, 1) := by decide +kernel
theorem dX8_following_10 : decode cX8_following 10 = .ok (.ifCond .eq 7, 3) := by decide +kernel
theorem dX8_following_13 : decode cX8_following 13 = .ok (.iconst 2, 1) := by decide +kernel
theorem dX8_following_14 : decode cX8_following 14 = .ok (.goto 16, 3) := by decide +kernel
theorem dX8_following_17 : decode cX8_following 17 = .ok (.aload_n 0, 1) := by decide +kernel
theorem dX8_following_18 : decode cX8_following 18 = .ok (.iload_n 1, 1) := by decide +kernel
theorem dX8_following_19 : decode cX8_following 19 = .ok (.invokevirtual 80, 3) := by decide +kernel
theorem dX8_following_22 : decode cX8_following 22 = .ok (.ifCond .eq 7, 3) := by decide +kernel
theorem dX8_following_25 : decode cX8_following 25 = .ok (.iconst 1, 1) := by decide +kernel
theorem dX8_following_26 : decode cX8_following 26 = .ok (.goto 4, 3) := by decide +kernel
theorem dX8_following_29 : decode cX8_following 29 = .ok (.iconst 0, 1) := by decide +kernel
theorem dX8_following_30 : decode cX8_following 30 = .ok (.ireturn, 1) := by decide +kernel
theorem dX8_follows_0 : decode cX8_follows 0 = .ok (.aload_n 0, 1) := by decide +kernel
theorem dX8_follows_1 : decode cX8_follows 1 = .ok (.iconst 0, 1) := by decide +kernel
theorem dX8_follows_2 : decode cX8_follows 2 = .ok (.putfield 47, 3) := by decide +kernel
theorem dX8_follows_5 : decode cX8_follows 5 = .ok (.iload_n 1, 1) := by decide +kernel
theorem dX8_follows_6 : decode cX8_follows 6 = .ok (.iload_n 2, 1) := by decide +kernel
theorem dX8_follows_7 : decode cX8_follows 7 = .ok (.iload_n 3, 1) := by decide +kernel
theorem dX8_follows_8 : decode cX8_follows 8 = .ok (.invokestatic 128, 3) := by decide +kernel
theorem dX8_follows_11 : decode cX8_follows 11 = .ok (.ifCond .eq 21, 3) := by decide +kernel
theorem dX8_follows_14 : decode cX8_follows 14 = .ok (.aload_n 0, 1) := by decide +kernel
theorem dX8_follows_15 : decode cX8_follows 15 = .ok (.bipush 64, 2) := by decide +kernel
theorem dX8_follows_17 : decode cX8_follows 17 = .ok (.iload_n 1, 1) := by decide +kernel
theorem dX8_follows_18 : decode cX8_follows 18 = .ok (.imul, 1) := by decide +kernel
theorem dX8_follows_19 : decode cX8_follows 19 = .ok (.bipush 8, 2) := by decide +kernel
theorem dX8_follows_21 : decode cX8_follows 21 = .ok (.iload_n 2, 1) := by decide +kernel
theorem dX8_follows_22 : decode cX8_follows 22 = .ok (.imul, 1) := by decide +kernel
theorem dX8_follows_23 : decode cX8_follows 23 = .ok (.iadd, 1) := by decide +kernel
theorem dX8_follows_24 : decode cX8_follows 24 = .ok (.iload_n 3, 1) := by decide +kernel
theorem dX8_follows_25 : decode cX8_follows 25 = .ok (.iadd, 1) := by decide +kernel
theorem dX8_follows_26 : decode cX8_follows 26 = .ok (.invokevirtual 204, 3) := by decide +kernel
theorem dX8_follows_29 : decode cX8_follows 29 = .ok (.goto 8, 3) := by decide +kernel
theorem dX8_follows_32 : decode cX8_follows 32 = .ok (.aload_n 0, 1) := by decide +kernel
theorem dX8_follows_33 : decode cX8_follows 33 = .ok (.iconst 1, 1) := by decide +kernel
theorem dX8_follows_34 : decode cX8_follows 34 = .ok (.invokevirtual 131, 3) := by decide +kernel
theorem dX8_follows_37 : decode cX8_follows 37 = .ok (.ireturn, 1) := by decide +kernel
theorem dX8_maskOf_0 : decode cX8_maskOf 0 = .ok (.aload_n 0, 1) := by decide +kernel
theorem dX8_maskOf_1 : decode cX8_maskOf 1 = .ok (.invokevirtual 148, 3) := by decide +kernel
theorem dX8_maskOf_4 : decode cX8_maskOf 4 = .ok (.iconst 0, 1) := by decide +kernel
theorem dX8_maskOf_5 : decode cX8_maskOf 5 = .ok (.istore_n 2, 1) := by decide +kernel
theorem dX8_maskOf_6 : decode cX8_maskOf 6 = .ok (.iconst 0, 1) := by decide +kernel
theorem dX8_maskOf_7 : decode cX8_maskOf 7 = .ok (.istore_n 3, 1) := by decide +kernel
theorem dX8_maskOf_8 : decode cX8_maskOf 8 = .ok (.iload_n 3, 1) := by decide +kernel
theorem dX8_maskOf_9 : decode cX8_maskOf 9 = .ok (.bipush 16, 2) := by decide +kernel
theorem dX8_maskOf_11 : decode cX8_maskOf 11 = .ok (.if_icmp .ge 57, 3) := by decide +kernel
theorem dX8_maskOf_14 : decode cX8_maskOf 14 = .ok (.iload_n 1, 1) := by decide +kernel
theorem dX8_maskOf_15 : decode cX8_maskOf 15 = .ok (.bipush 64, 2) := by decide +kernel
theorem dX8_maskOf_17 : decode cX8_maskOf 17 = .ok (.idiv, 1) := by decide +kernel
theorem dX8_maskOf_18 : decode cX8_maskOf 18 = .ok (.bipush 64, 2) := by decide +kernel
theorem dX8_maskOf_20 : decode cX8_maskOf 20 = .ok (.imul, 1) := by decide +kernel
theorem dX8_maskOf_21 : decode cX8_maskOf 21 = .ok (.bipush 8, 2) := by decide +kernel
theorem dX8_maskOf_23 : decode cX8_maskOf 23 = .ok (.iload_n 3, 1) := by decide +kernel
theorem dX8_maskOf_24 : decode cX8_maskOf 24 = .ok (.iconst 4, 1) := by decide +kernel
theorem dX8_maskOf_25 : decode cX8_maskOf 25 = .ok (.idiv, 1) := by decide +kernel
theorem dX8_maskOf_26 : decode cX8_maskOf 26 = .ok (.imul, 1) := by decide +kernel
theorem dX8_maskOf_27 : decode cX8_maskOf 27 = .ok (.iadd, 1) := by decide +kernel
theorem dX8_maskOf_28 : decode cX8_maskOf 28 = .ok (.iload_n 3, 1) := by decide +kernel
theorem dX8_maskOf_29 : decode cX8_maskOf 29 = .ok (.iconst 4, 1) := by decide +kernel
theorem dX8_maskOf_30 : decode cX8_maskOf 30 = .ok (.irem, 1) := by decide +kernel
theorem dX8_maskOf_31 : decode cX8_maskOf 31 = .ok (.iadd, 1) := by decide +kernel
theorem dX8_maskOf_32 : decode cX8_maskOf 32 = .ok (.istore 4, 2) := by decide +kernel
theorem dX8_maskOf_34 : decode cX8_maskOf 34 = .ok (.iload_n 2, 1) := by decide +kernel
theorem dX8_maskOf_35 : decode cX8_maskOf 35 = .ok (.iload_n 1, 1) := by decide +kernel
theorem dX8_maskOf_36 : decode cX8_maskOf 36 = .ok (.iload 4, 2) := by decide +kernel
theorem dX8_maskOf_38 : decode cX8_maskOf 38 = .ok (.invokestatic 207, 3) := by decide +kernel
theorem dX8_maskOf_41 : decode cX8_maskOf 41 = .ok (.ifCond .eq 18, 3) := by decide +kernel
theorem dX8_maskOf_44 : decode cX8_maskOf 44 = .ok (.aload_n 0, 1) := by decide +kernel
theorem dX8_maskOf_45 : decode cX8_maskOf 45 = .ok (.iload 4, 2) := by decide +kernel
theorem dX8_maskOf_47 : decode cX8_maskOf 47 = .ok (.invokevirtual 125, 3) := by decide +kernel
theorem dX8_maskOf_50 : decode cX8_maskOf 50 = .ok (.ifCond .eq 9, 3) := by decide +kernel
theorem dX8_maskOf_53 : decode cX8_maskOf 53 = .ok (.iconst 1, 1) := by decide +kernel
theorem dX8_maskOf_54 : decode cX8_maskOf 54 = .ok (.iload_n 3, 1) := by decide +kernel
theorem dX8_maskOf_55 : decode cX8_maskOf 55 = .ok (.ishl, 1) := by decide +kernel
theorem dX8_maskOf_56 : decode cX8_maskOf 56 = .ok (.goto 4, 3) := by decide +kernel
theorem dX8_maskOf_59 : decode cX8_maskOf 59 = .ok (.iconst 0, 1) := by decide +kernel
theorem dX8_maskOf_60 : decode cX8_maskOf 60 = .ok (.ior, 1) := by decide +kernel
theorem dX8_maskOf_61 : decode cX8_maskOf 61 = .ok (.istore_n 2, 1) := by decide +kernel
theorem dX8_maskOf_62 : decode cX8_maskOf 62 = .ok (.iinc 3 1, 3) := by decide +kernel
theorem dX8_maskOf_65 : decode cX8_maskOf 65 = .ok (.goto (-57), 3) := by decide +kernel
theorem dX8_maskOf_68 : decode cX8_maskOf 68 = .ok (.iload_n 2, 1) := by decide +kernel
theorem dX8_maskOf_69 : decode cX8_maskOf 69 = .ok (.ireturn, 1) := by decide +kernel
theorem dX8_instances_0 : decode cX8_instances 0 = .ok (.aload_n 0, 1) := by decide +kernel
theorem dX8_instances_1 : decode cX8_instances 1 = .ok (.iconst 0, 1) := by decide +kernel
theorem dX8_instances_2 : decode cX8_instances 2 = .ok (.putfield 47, 3) := by decide +kernel
theorem dX8_instances_5 : decode cX8_instances 5 = .ok (.iload_n 1, 1) := by decide +kernel
theorem dX8_instances_6 : decode cX8_instances 6 = .ok (.iload_n 2, 1) := by decide +kernel
theorem dX8_instances_7 : decode cX8_instances 7 = .ok (.iload_n 3, 1) := by decide +kernel
theorem dX8_instances_8 : decode cX8_instances 8 = .ok (.invokestatic 128, 3) := by decide +kernel
theorem dX8_instances_11 : decode cX8_instances 11 = .ok (.ifCond .eq 21, 3) := by decide +kernel
theorem dX8_instances_14 : decode cX8_instances 14 = .ok (.aload_n 0, 1) := by decide +kernel
theorem dX8_instances_15 : decode cX8_instances 15 = .ok (.bipush 64, 2) := by decide +kernel
theorem dX8_instances_17 : decode cX8_instances 17 = .ok (.iload_n 1, 1) := by decide +kernel
theorem dX8_instances_18 : decode cX8_instances 18 = .ok (.imul, 1) := by decide +kernel
theorem dX8_instances_19 : decode cX8_instances 19 = .ok (.bipush 8, 2) := by decide +kernel
theorem dX8_instances_21 : decode cX8_instances 21 = .ok (.iload_n 2, 1) := by decide +kernel
theorem dX8_instances_22 : decode cX8_instances 22 = .ok (.imul, 1) := by decide +kernel
theorem dX8_instances_23 : decode cX8_instances 23 = .ok (.iadd, 1) := by decide +kernel
theorem dX8_instances_24 : decode cX8_instances 24 = .ok (.iload_n 3, 1) := by decide +kernel
theorem dX8_instances_25 : decode cX8_instances 25 = .ok (.iadd, 1) := by decide +kernel
theorem dX8_instances_26 : decode cX8_instances 26 = .ok (.invokevirtual 210, 3) := by decide +kernel
theorem dX8_instances_29 : decode cX8_instances 29 = .ok (.goto 8, 3) := by decide +kernel
theorem dX8_instances_32 : decode cX8_instances 32 = .ok (.aload_n 0, 1) := by decide +kernel
theorem dX8_instances_33 : decode cX8_instances 33 = .ok (.iconst 1, 1) := by decide +kernel
theorem dX8_instances_34 : decode cX8_instances 34 = .ok (.invokevirtual 131, 3) := by decide +kernel
theorem dX8_instances_37 : decode cX8_instances 37 = .ok (.ireturn, 1) := by decide +kernel
theorem dX8_behindRound_0 : decode cX8_behindRound 0 = .ok (.aload_n 0, 1) := by decide +kernel
theorem dX8_behindRound_1 : decode cX8_behindRound 1 = .ok (.invokevirtual 148, 3) := by decide +kernel
theorem dX8_behindRound_4 : decode cX8_behindRound 4 = .ok (.aload_n 0, 1) := by decide +kernel
theorem dX8_behindRound_5 : decode cX8_behindRound 5 = .ok (.getfield 35, 3) := by decide +kernel
theorem dX8_behindRound_8 : decode cX8_behindRound 8 = .ok (.iload_n 1, 1) := by decide +kernel
theorem dX8_behindRound_9 : decode cX8_behindRound 9 = .ok (.aload_n 0, 1) := by decide +kernel
theorem dX8_behindRound_10 : decode cX8_behindRound 10 = .ok (.getfield 112, 3) := by decide +kernel
theorem dX8_behindRound_13 : decode cX8_behindRound 13 = .ok (.if_icmp .ge 7, 3) := by decide +kernel
theorem dX8_behindRound_16 : decode cX8_behindRound 16 = .ok (.iload_n 1, 1) := by decide +kernel
theorem dX8_behindRound_17 : decode cX8_behindRound 17 = .ok (.goto 7, 3) := by decide +kernel
theorem dX8_behindRound_20 : decode cX8_behindRound 20 = .ok (.aload_n 0, 1) := by decide +kernel
theorem dX8_behindRound_21 : decode cX8_behindRound 21 = .ok (.getfield 112, 3) := by decide +kernel
theorem dX8_behindRound_24 : decode cX8_behindRound 24 = .ok (.iaload, 1) := by decide +kernel
theorem dX8_behindRound_25 : decode cX8_behindRound 25 = .ok (.ireturn, 1) := by decide +kernel
theorem dX8_behind_0 : decode cX8_behind 0 = .ok (.aload_n 0, 1) := by decide +kernel
theorem dX8_behind_1 : decode cX8_behind 1 = .ok (.iconst 0, 1) := by decide +kernel
theorem dX8_behind_2 : decode cX8_behind 2 = .ok (.putfield 47, 3) := by decide +kernel
theorem dX8_behind_5 : decode cX8_behind 5 = .ok (.iload_n 1, 1) := by decide +kernel
theorem dX8_behind_6 : decode cX8_behind 6 = .ok (.ifCond .ge 11, 3) := by decide +kernel
theorem dX8_behind_9 : decode cX8_behind 9 = .ok (.aload_n 0, 1) := by decide +kernel
theorem dX8_behind_10 : decode cX8_behind 10 = .ok (.iconst 1, 1) := by decide +kernel
theorem dX8_behind_11 : decode cX8_behind 11 = .ok (.invokevirtual 131, 3) := by decide +kernel
theorem dX8_behind_14 : decode cX8_behind 14 = .ok (.goto 8, 3) := by decide +kernel
theorem dX8_behind_17 : decode cX8_behind 17 = .ok (.aload_n 0, 1) := by decide +kernel
theorem dX8_behind_18 : decode cX8_behind 18 = .ok (.iload_n 1, 1) := by decide +kernel
theorem dX8_behind_19 : decode cX8_behind 19 = .ok (.invokevirtual 213, 3) := by decide +kernel
theorem dX8_behind_22 : decode cX8_behind 22 = .ok (.ireturn, 1) := by decide +kernel
theorem dX8_withoutRule_0 : decode cX8_withoutRule 0 = .ok (.aload_n 0, 1) := by decide +kernel
theorem dX8_withoutRule_1 : decode cX8_withoutRule 1 = .ok (.invokevirtual 148, 3) := by decide +kernel
theorem dX8_withoutRule_4 : decode cX8_withoutRule 4 = .ok (.aload_n 0, 1) := by decide +kernel
theorem dX8_withoutRule_5 : decode cX8_withoutRule 5 = .ok (.invokevirtual 198, 3) := by decide +kernel
theorem dX8_withoutRule_8 : decode cX8_withoutRule 8 = .ok (.istore_n 3, 1) := by decide +kernel
theorem dX8_withoutRule_9 : decode cX8_withoutRule 9 = .ok (.aload_n 0, 1) := by decide +kernel
theorem dX8_withoutRule_10 : decode cX8_withoutRule 10 = .ok (.iload_n 1, 1) := by decide +kernel
theorem dX8_withoutRule_11 : decode cX8_withoutRule 11 = .ok (.iconst (-1), 1) := by decide +kernel
theorem dX8_withoutRule_12 : decode cX8_withoutRule 12 = .ok (.iconst (-1), 1) := by decide +kernel
theorem dX8_withoutRule_13 : decode cX8_withoutRule 13 = .ok (.invokevirtual 121, 3) := by decide +kernel
theorem dX8_withoutRule_16 : decode cX8_withoutRule 16 = .ok (.iload_n 2, 1) := by decide +kernel
theorem dX8_withoutRule_17 : decode cX8_withoutRule 17 = .ok (.ifCond .ne 10, 3) := by decide +kernel
theorem dX8_withoutRule_20 : decode cX8_withoutRule 20 = .ok (.aload_n 0, 1) := by decide +kernel
theorem dX8_withoutRule_21 : decode cX8_withoutRule 21 = .ok (.getfield 86, 3) := by decide +kernel
theorem dX8_withoutRule_24 : decode cX8_withoutRule 24 = .ok (.goto 21, 3) := by decide +kernel
theorem dX8_withoutRule_27 : decode cX8_withoutRule 27 = .ok (.iload_n 2, 1) := by decide +kernel
theorem dX8_withoutRule_28 : decode cX8_withoutRule 28 = .ok (.iconst 1, 1) := by decide +kernel
theorem dX8_withoutRule_29 : decode cX8_withoutRule 29 = .ok (.if_icmp .ne 10, 3) := by decide +kernel
theorem dX8_withoutRule_32 : decode cX8_withoutRule 32 = .ok (.aload_n 0, 1) := by decide +kernel
theorem dX8_withoutRule_33 : decode cX8_withoutRule 33 = .ok (.getfield 112, 3) := by decide +kernel
theorem dX8_withoutRule_36 : decode cX8_withoutRule 36 = .ok (.goto 9, 3) := by decide +kernel
theorem dX8_withoutRule_39 : decode cX8_withoutRule 39 = .ok (.iload_n 3, 1) := by decide +kernel
theorem dX8_withoutRule_40 : decode cX8_withoutRule 40 = .ok (.aload_n 0, 1) := by decide +kernel
theorem dX8_withoutRule_41 : decode cX8_withoutRule 41 = .ok (.invokevirtual 198, 3) := by decide +kernel
theorem dX8_withoutRule_44 : decode cX8_withoutRule 44 = .ok (.isub, 1) := by decide +kernel
theorem dX8_withoutRule_45 : decode cX8_withoutRule 45 = .ok (.ireturn, 1) := by decide +kernel
theorem dX8_without_0 : decode cX8_without 0 = .ok (.aload_n 0, 1) := by decide +kernel
theorem dX8_without_1 : decode cX8_without 1 = .ok (.iconst 0, 1) := by decide +kernel
theorem dX8_without_2 : decode cX8_without 2 = .ok (.putfield 47, 3) := by decide +kernel
theorem dX8_without_5 : decode cX8_without 5 = .ok (.iload_n 1, 1) := by decide +kernel
theorem dX8_without_6 : decode cX8_without 6 = .ok (.iconst 0, 1) := by decide +kernel
theorem dX8_without_7 : decode cX8_without 7 = .ok (.aload_n 0, 1) := by decide +kernel
theorem dX8_without_8 : decode cX8_without 8 = .ok (.getfield 7, 3) := by decide +kernel
theorem dX8_without_11 : decode cX8_without 11 = .ok (.sipush 256, 3) := by decide +kernel
theorem dX8_without_14 : decode cX8_without 14 = .ok (.iaload, 1) := by decide +kernel
theorem dX8_without_15 : decode cX8_without 15 = .ok (.iconst 1, 1) := by decide +kernel
theorem dX8_without_16 : decode cX8_without 16 = .ok (.isub, 1) := by decide +kernel
theorem dX8_without_17 : decode cX8_without 17 = .ok (.invokestatic 54, 3) := by decide +kernel
theorem dX8_without_20 : decode cX8_without 20 = .ok (.ifCond .ne 9, 3) := by decide +kernel
theorem dX8_without_23 : decode cX8_without 23 = .ok (.aload_n 0, 1) := by decide +kernel
theorem dX8_without_24 : decode cX8_without 24 = .ok (.iconst 1, 1) := by decide +kernel
theorem dX8_without_25 : decode cX8_without 25 = .ok (.invokevirtual 131, 3) := by decide +kernel
theorem dX8_without_28 : decode cX8_without 28 = .ok (.ireturn, 1) := by decide +kernel
theorem dX8_without_29 : decode cX8_without 29 = .ok (.iload_n 2, 1) := by decide +kernel
theorem dX8_without_30 : decode cX8_without 30 = .ok (.iconst 0, 1) := by decide +kernel
theorem dX8_without_31 : decode cX8_without 31 = .ok (.iconst 2, 1) := by decide +kernel
theorem dX8_without_32 : decode cX8_without 32 = .ok (.invokestatic 54, 3) := by decide +kernel
theorem dX8_without_35 : decode cX8_without 35 = .ok (.ifCond .eq 12, 3) := by decide +kernel
theorem dX8_without_38 : decode cX8_without 38 = .ok (.aload_n 0, 1) := by decide +kernel
theorem dX8_without_39 : decode cX8_without 39 = .ok (.iload_n 1, 1) := by decide +kernel
theorem dX8_without_40 : decode cX8_without 40 = .ok (.iload_n 2, 1) := by decide +kernel
theorem dX8_without_41 : decode cX8_without 41 = .ok (.invokevirtual 216, 3) := by decide +kernel
theorem dX8_without_44 : decode cX8_without 44 = .ok (.goto 8, 3) := by decide +kernel
theorem dX8_without_47 : decode cX8_without 47 = .ok (.aload_n 0, 1) := by decide +kernel
theorem dX8_without_48 : decode cX8_without 48 = .ok (.iconst 2, 1) := by decide +kernel
theorem dX8_without_49 : decode cX8_without 49 = .ok (.invokevirtual 131, 3) := by decide +kernel
theorem dX8_without_52 : decode cX8_without 52 = .ok (.ireturn, 1) := by decide +kernel
theorem dX8_spareAt_0 : decode cX8_spareAt 0 = .ok (.aload_n 0, 1) := by decide +kernel
theorem dX8_spareAt_1 : decode cX8_spareAt 1 = .ok (.iload_n 1, 1) := by decide +kernel
theorem dX8_spareAt_2 : decode cX8_spareAt 2 = .ok (.invokevirtual 186, 3) := by decide +kernel
theorem dX8_spareAt_5 : decode cX8_spareAt 5 = .ok (.istore_n 2, 1) := by decide +kernel
theorem dX8_spareAt_6 : decode cX8_spareAt 6 = .ok (.iload_n 2, 1) := by decide +kernel
theorem dX8_spareAt_7 : decode cX8_spareAt 7 = .ok (.iconst (-1), 1) := by decide +kernel
theorem dX8_spareAt_8 : decode cX8_spareAt 8 = .ok (.if_icmp .ne 5, 3) := by decide +kernel
theorem dX8_spareAt_11 : decode cX8_spareAt 11 = .ok (.iconst (-1), 1) := by decide +kernel
theorem dX8_spareAt_12 : decode cX8_spareAt 12 = .ok (.ireturn, 1) := by decide +kernel
theorem dX8_spareAt_13 : decode cX8_spareAt 13 = .ok (.aload_n 0, 1) := by decide +kernel
theorem dX8_spareAt_14 : decode cX8_spareAt 14 = .ok (.iconst (-1), 1) := by decide +kernel
theorem dX8_spareAt_15 : decode cX8_spareAt 15 = .ok (.iload_n 2, 1) := by decide +kernel
theorem dX8_spareAt_16 : decode cX8_spareAt 16 = .ok (.iconst (-1), 1) := by decide +kernel
theorem dX8_spareAt_17 : decode cX8_spareAt 17 = .ok (.invokevirtual 121, 3) := by decide +kernel
theorem dX8_spareAt_20 : decode cX8_spareAt 20 = .ok (.aload_n 0, 1) := by decide +kernel
theorem dX8_spareAt_21 : decode cX8_spareAt 21 = .ok (.iload_n 2, 1) := by decide +kernel
theorem dX8_spareAt_22 : decode cX8_spareAt 22 = .ok (.invokevirtual 125, 3) := by decide +kernel
theorem dX8_spareAt_25 : decode cX8_spareAt 25 = .ok (.ifCond .eq 7, 3) := by decide +kernel
theorem dX8_spareAt_28 : decode cX8_spareAt 28 = .ok (.iconst 1, 1) := by decide +kernel
theorem dX8_spareAt_29 : decode cX8_spareAt 29 = .ok (.goto 4, 3) := by decide +kernel
theorem dX8_spareAt_32 : decode cX8_spareAt 32 = .ok (.iconst 0, 1) := by decide +kernel
theorem dX8_spareAt_33 : decode cX8_spareAt 33 = .ok (.ireturn, 1) := by decide +kernel
theorem dX8_spare_0 : decode cX8_spare 0 = .ok (.aload_n 0, 1) := by decide +kernel
theorem dX8_spare_1 : decode cX8_spare 1 = .ok (.iconst 0, 1) := by decide +kernel
theorem dX8_spare_2 : decode cX8_spare 2 = .ok (.putfield 47, 3) := by decide +kernel
theorem dX8_spare_5 : decode cX8_spare 5 = .ok (.iload_n 1, 1) := by decide +kernel
theorem dX8_spare_6 : decode cX8_spare 6 = .ok (.ifCond .ge 11, 3) := by decide +kernel
theorem dX8_spare_9 : decode cX8_spare 9 = .ok (.aload_n 0, 1) := by decide +kernel
theorem dX8_spare_10 : decode cX8_spare 10 = .ok (.iconst 1, 1) := by decide +kernel
theorem dX8_spare_11 : decode cX8_spare 11 = .ok (.invokevirtual 131, 3) := by decide +kernel
theorem dX8_spare_14 : decode cX8_spare 14 = .ok (.goto 8, 3) := by decide +kernel
theorem dX8_spare_17 : decode cX8_spare 17 = .ok (.aload_n 0, 1) := by decide +kernel
theorem dX8_spare_18 : decode cX8_spare 18 = .ok (.iload_n 1, 1) := by decide +kernel
theorem dX8_spare_19 : decode cX8_spare 19 = .ok (.invokevirtual 219, 3) := by decide +kernel
theorem dX8_spare_22 : decode cX8_spare 22 = .ok (.ireturn, 1) := by decide +kernel
theorem dX8_richestOf_0 : decode cX8_richestOf 0 = .ok (.iconst (-1), 1) := by decide +kernel
theorem dX8_richestOf_1 : decode cX8_richestOf 1 = .ok (.istore_n 2, 1) := by decide +kernel
theorem dX8_richestOf_2 : decode cX8_richestOf 2 = .ok (.iconst 0, 1) := by decide +kernel
theorem dX8_richestOf_3 : decode cX8_richestOf 3 = .ok (.istore_n 3, 1) := by decide +kernel
theorem dX8_richestOf_4 : decode cX8_richestOf 4 = .ok (.iconst 0, 1) := by decide +kernel
theorem dX8_richestOf_5 : decode cX8_richestOf 5 = .ok (.istore 4, 2) := by decide +kernel
theorem dX8_richestOf_7 : decode cX8_richestOf 7 = .ok (.iload 4, 2) := by decide +kernel
theorem dX8_richestOf_9 : decode cX8_richestOf 9 = .ok (.bipush 16, 2) := by decide +kernel
theorem dX8_richestOf_11 : decode cX8_richestOf 11 = .ok (.if_icmp .ge 54, 3) := by decide +kernel
theorem dX8_richestOf_14 : decode cX8_richestOf 14 = .ok (.bipush 64, 2) := by decide +kernel
theorem dX8_richestOf_16 : decode cX8_richestOf 16 = .ok (.iload_n 1, 1) := by decide +kernel
theorem dX8_richestOf_17 : decode cX8_richestOf 17 = .ok (.imul, 1) := by decide +kernel
theorem dX8_richestOf_18 : decode cX8_richestOf 18 = .ok (.bipush 8, 2) := by decide +kernel
theorem dX8_richestOf_20 : decode cX8_richestOf 20 = .ok (.iload 4, 2) := by decide +kernel
theorem dX8_richestOf_22 : decode cX8_richestOf 22 = .ok (.iconst 4, 1) := by decide +kernel
theorem dX8_richestOf_23 : decode cX8_richestOf 23 = .ok (.idiv, 1) := by decide +kernel
theorem dX8_richestOf_24 : decode cX8_richestOf 24 = .ok (.imul, 1) := by decide +kernel
theorem dX8_richestOf_25 : decode cX8_richestOf 25 = .ok (.iadd, 1) := by decide +kernel
theorem dX8_richestOf_26 : decode cX8_richestOf 26 = .ok (.iload 4, 2) := by decide +kernel
theorem dX8_richestOf_28 : decode cX8_richestOf 28 = .ok (.iconst 4, 1) := by decide +kernel
theorem dX8_richestOf_29 : decode cX8_richestOf 29 = .ok (.irem, 1) := by decide +kernel
theorem dX8_richestOf_30 : decode cX8_richestOf 30 = .ok (.iadd, 1) := by decide +kernel
theorem dX8_richestOf_31 : decode cX8_richestOf 31 = .ok (.istore 5, 2) := by decide +kernel
theorem dX8_richestOf_33 : decode cX8_richestOf 33 = .ok (.aload_n 0, 1) := by decide +kernel
theorem dX8_richestOf_34 : decode cX8_richestOf 34 = .ok (.iconst (-1), 1) := by decide +kernel
theorem dX8_richestOf_35 : decode cX8_richestOf 35 = .ok (.iconst (-1), 1) := by decide +kernel
theorem dX8_richestOf_36 : decode cX8_richestOf 36 = .ok (.iload 5, 2) := by decide +kernel
theorem dX8_richestOf_38 : decode cX8_richestOf 38 = .ok (.invokevirtual 121, 3) := by decide +kernel
theorem dX8_richestOf_41 : decode cX8_richestOf 41 = .ok (.aload_n 0, 1) := by decide +kernel
theorem dX8_richestOf_42 : decode cX8_richestOf 42 = .ok (.invokevirtual 198, 3) := by decide +kernel
theorem dX8_richestOf_45 : decode cX8_richestOf 45 = .ok (.istore 6, 2) := by decide +kernel
theorem dX8_richestOf_47 : decode cX8_richestOf 47 = .ok (.iload 6, 2) := by decide +kernel
theorem dX8_richestOf_49 : decode cX8_richestOf 49 = .ok (.iload_n 3, 1) := by decide +kernel
theorem dX8_richestOf_50 : decode cX8_richestOf 50 = .ok (.if_icmp .le 9, 3) := by decide +kernel
theorem dX8_richestOf_53 : decode cX8_richestOf 53 = .ok (.iload 6, 2) := by decide +kernel
theorem dX8_richestOf_55 : decode cX8_richestOf 55 = .ok (.istore_n 3, 1) := by decide +kernel
theorem dX8_richestOf_56 : decode cX8_richestOf 56 = .ok (.iload 5, 2) := by decide +kernel
theorem dX8_richestOf_58 : decode cX8_richestOf 58 = .ok (.istore_n 2, 1) := by decide +kernel
theorem dX8_richestOf_59 : decode cX8_richestOf 59 = .ok (.iinc 4 1, 3) := by decide +kernel
theorem dX8_richestOf_62 : decode cX8_richestOf 62 = .ok (.goto (-55), 3) := by decide +kernel
theorem dX8_richestOf_65 : decode cX8_richestOf 65 = .ok (.iload_n 2, 1) := by decide +kernel
theorem dX8_richestOf_66 : decode cX8_richestOf 66 = .ok (.bipush 64, 2) := by decide +kernel
theorem dX8_richestOf_68 : decode cX8_richestOf 68 = .ok (.irem, 1) := by decide +kernel
theorem dX8_richestOf_69 : decode cX8_richestOf 69 = .ok (.ireturn, 1) := by decide +kernel
theorem dX8_richest_0 : decode cX8_richest 0 = .ok (.aload_n 0, 1) := by decide +kernel
theorem dX8_richest_1 : decode cX8_richest 1 = .ok (.iconst 0, 1) := by decide +kernel
theorem dX8_richest_2 : decode cX8_richest 2 = .ok (.putfield 47, 3) := by decide +kernel
theorem dX8_richest_5 : decode cX8_richest 5 = .ok (.iload_n 1, 1) := by decide +kernel
theorem dX8_richest_6 : decode cX8_richest 6 = .ok (.iconst 0, 1) := by decide +kernel
theorem dX8_richest_7 : decode cX8_richest 7 = .ok (.iconst 3, 1) := by decide +kernel
theorem dX8_richest_8 : decode cX8_richest 8 = .ok (.invokestatic 54, 3) := by decide +kernel
theorem dX8_richest_11 : decode cX8_richest 11 = .ok (.ifCond .eq 11, 3) := by decide +kernel
theorem dX8_richest_14 : decode cX8_richest 14 = .ok (.aload_n 0, 1) := by decide +kernel
theorem dX8_richest_15 : decode cX8_richest 15 = .ok (.iload_n 1, 1) := by decide +kernel
theorem dX8_richest_16 : decode cX8_richest 16 = .ok (.invokevirtual 222, 3) := by decide +kernel
theorem dX8_richest_19 : decode cX8_richest 19 = .ok (.goto 8, 3) := by decide +kernel
theorem dX8_richest_22 : decode cX8_richest 22 = .ok (.aload_n 0, 1) := by decide +kernel
theorem dX8_richest_23 : decode cX8_richest 23 = .ok (.iconst 1, 1) := by decide +kernel
theorem dX8_richest_24 : decode cX8_richest 24 = .ok (.invokevirtual 131, 3) := by decide +kernel
theorem dX8_richest_27 : decode cX8_richest 27 = .ok (.ireturn, 1) := by decide +kernel
theorem dX8_ruled_0 : decode cX8_ruled 0 = .ok (.aload_n 0, 1) := by decide +kernel
theorem dX8_ruled_1 : decode cX8_ruled 1 = .ok (.invokevirtual 148, 3) := by decide +kernel
theorem dX8_ruled_4 : decode cX8_ruled 4 = .ok (.aload_n 0, 1) := by decide +kernel
theorem dX8_ruled_5 : decode cX8_ruled 5 = .ok (.invokevirtual 198, 3) := by decide +kernel
theorem dX8_ruled_8 : decode cX8_ruled 8 = .ok (.istore_n 1, 1) := by decide +kernel
theorem dX8_ruled_9 : decode cX8_ruled 9 = .ok (.iconst 0, 1) := by decide +kernel
theorem dX8_ruled_10 : decode cX8_ruled 10 = .ok (.istore_n 2, 1) := by decide +kernel
theorem dX8_ruled_11 : decode cX8_ruled 11 = .ok (.iconst 0, 1) := by decide +kernel
theorem dX8_ruled_12 : decode cX8_ruled 12 = .ok (.istore_n 3, 1) := by decide +kernel
theorem dX8_ruled_13 : decode cX8_ruled 13 = .ok (.iload_n 3, 1) := by decide +kernel
theorem dX8_ruled_14 : decode cX8_ruled 14 = .ok (.sipush 256, 3) := by decide +kernel
theorem dX8_ruled_17 : decode cX8_ruled 17 = .ok (.if_icmp .ge 30, 3) := by decide +kernel
theorem dX8_ruled_20 : decode cX8_ruled 20 = .ok (.aload_n 0, 1) := by decide +kernel
theorem dX8_ruled_21 : decode cX8_ruled 21 = .ok (.getfield 19, 3) := by decide +kernel
theorem dX8_ruled_24 : decode cX8_ruled 24 = .ok (.iload_n 3, 1) := by decide +kernel
theorem dX8_ruled_25 : decode cX8_ruled 25 = .ok (.aload_n 0, 1) := by decide +kernel
theorem dX8_ruled_26 : decode cX8_ruled 26 = .ok (.getfield 7, 3) := by decide +kernel
theorem dX8_ruled_29 : decode cX8_ruled 29 = .ok (.iload_n 3, 1) := by decide +kernel
theorem dX8_ruled_30 : decode cX8_ruled 30 = .ok (.iaload, 1) := by decide +kernel
theorem dX8_ruled_31 : decode cX8_ruled 31 = .ok (.iconst 1, 1) := by decide +kernel
theorem dX8_ruled_32 : decode cX8_ruled 32 = .ok (.if_icmp .ne 7, 3) := by decide +kernel
theorem dX8_ruled_35 : decode cX8_ruled 35 = .ok (.iconst 1, 1) := by decide +kernel
theorem dX8_ruled_36 : decode cX8_ruled 36 = .ok (.goto 4, 3) := by decide +kernel
theorem dX8_ruled_39 : decode cX8_ruled 39 = .ok (.iconst 0, 1) := by decide +kernel
theorem dX8_ruled_40 : decode cX8_ruled 40 = .ok (.bastore, 1) := by decide +kernel
theorem dX8_ruled_41 : decode cX8_ruled 41 = .ok (.iinc 3 1, 3) := by decide +kernel
theorem dX8_ruled_44 : decode cX8_ruled 44 = .ok (.goto (-31), 3) := by decide +kernel
theorem dX8_ruled_47 : decode cX8_ruled 47 = .ok (.aload_n 0, 1) := by decide +kernel
theorem dX8_ruled_48 : decode cX8_ruled 48 = .ok (.invokevirtual 198, 3) := by decide +kernel
theorem dX8_ruled_51 : decode cX8_ruled 51 = .ok (.istore_n 2, 1) := by decide +kernel
theorem dX8_ruled_52 : decode cX8_ruled 52 = .ok (.iload_n 1, 1) := by decide +kernel
theorem dX8_ruled_53 : decode cX8_ruled 53 = .ok (.ifCond .ne 7, 3) := by decide +kernel
theorem dX8_ruled_56 : decode cX8_ruled 56 = .ok (.dconst 0, 1) := by decide +kernel
theorem dX8_ruled_57 : decode cX8_ruled 57 = .ok (.goto 10, 3) := by decide +kernel
theorem dX8_ruled_60 : decode cX8_ruled 60 = .ok (.iload_n 1, 1) := by decide +kernel
theorem dX8_ruled_61 : decode cX8_ruled 61 = .ok (.iload_n 2, 1) := by decide +kernel
theorem dX8_ruled_62 : decode cX8_ruled 62 = .ok (.isub, 1) := by decide +kernel
theorem dX8_ruled_63 : decode cX8_ruled 63 = .ok (.i2d, 1) := by decide +kernel
theorem dX8_ruled_64 : decode cX8_ruled 64 = .ok (.iload_n 1, 1) := by decide +kernel
theorem dX8_ruled_65 : decode cX8_ruled 65 = .ok (.i2d, 1) := by decide +kernel
theorem dX8_ruled_66 : decode cX8_ruled 66 = .ok (.ddiv, 1) := by decide +kernel
theorem dX8_ruled_67 : decode cX8_ruled 67 = .ok (.dreturn, 1) := by decide +kernel
theorem dX8_byRules_0 : decode cX8_byRules 0 = .ok (.aload_n 0, 1) := by decide +kernel
theorem dX8_byRules_1 : decode cX8_byRules 1 = .ok (.iconst 0, 1) := by decide +kernel
theorem dX8_byRules_2 : decode cX8_byRules 2 = .ok (.putfield 47, 3) := by decide +kernel
theorem dX8_byRules_5 : decode cX8_byRules 5 = .ok (.aload_n 0, 1) := by decide +kernel
theorem dX8_byRules_6 : decode cX8_byRules 6 = .ok (.invokevirtual 225, 3) := by decide +kernel
theorem dX8_byRules_9 : decode cX8_byRules 9 = .ok (.dreturn, 1) := by decide +kernel
theorem dX8_hashes_0 : decode cX8_hashes 0 = .ok (.aload_n 0, 1) := by decide +kernel
theorem dX8_hashes_1 : decode cX8_hashes 1 = .ok (.ldc2_w 229, 3) := by decide +kernel
theorem dX8_hashes_4 : decode cX8_hashes 4 = .ok (.aload_n 0, 1) := by decide +kernel
theorem dX8_hashes_5 : decode cX8_hashes 5 = .ok (.getfield 231, 3) := by decide +kernel
theorem dX8_hashes_8 : decode cX8_hashes 8 = .ok (.lmul, 1) := by decide +kernel
theorem dX8_hashes_9 : decode cX8_hashes 9 = .ok (.lload_n 1, 1) := by decide +kernel
theorem dX8_hashes_10 : decode cX8_hashes 10 = .ok (.ladd, 1) := by decide +kernel
theorem dX8_hashes_11 : decode cX8_hashes 11 = .ok (.putfield 231, 3) := by decide +kernel
theorem dX8_hashes_14 : decode cX8_hashes 14 = .ok (.return_, 1) := by decide +kernel
theorem dX8_digest_0 : decode cX8_digest 0 = .ok (.aload_n 0, 1) := by decide +kernel
theorem dX8_digest_1 : decode cX8_digest 1 = .ok (.iconst 0, 1) := by decide +kernel
theorem dX8_digest_2 : decode cX8_digest 2 = .ok (.putfield 47, 3) := by decide +kernel
theorem dX8_digest_5 : decode cX8_digest 5 = .ok (.aload_n 0, 1) := by decide +kernel
theorem dX8_digest_6 : decode cX8_digest 6 = .ok (.ldc2_w 235, 3) := by decide +kernel
theorem dX8_digest_9 : decode cX8_digest 9 = .ok (.putfield 231, 3) := by decide +kernel
theorem dX8_digest_12 : decode cX8_digest 12 = .ok (.iconst 0, 1) := by decide +kernel
theorem dX8_digest_13 : decode cX8_digest 13 = .ok (.istore_n 1, 1) := by decide +kernel
theorem dX8_digest_14 : decode cX8_digest 14 = .ok (.iload_n 1, 1) := by decide +kernel
theorem dX8_digest_15 : decode cX8_digest 15 = .ok (.bipush 8, 2) := by decide +kernel
theorem dX8_digest_17 : decode cX8_digest 17 = .ok (.if_icmp .ge 19, 3) := by decide +kernel
theorem dX8_digest_20 : decode cX8_digest 20 = .ok (.aload_n 0, 1) := by decide +kernel
theorem dX8_digest_21 : decode cX8_digest 21 = .ok (.aload_n 0, 1) := by decide +kernel
theorem dX8_digest_22 : decode cX8_digest 22 = .ok (.iload_n 1, 1) := by decide +kernel
theorem dX8_digest_23 : decode cX8_digest 23 = .ok (.invokevirtual 201, 3) := by decide +kernel
theorem dX8_digest_26 : decode cX8_digest 26 = .ok (.i2l, 1) := by decide +kernel
theorem dX8_digest_27 : decode cX8_digest 27 = .ok (.invokevirtual 237, 3) := by decide +kernel
theorem dX8_digest_30 : decode cX8_digest 30 = .ok (.iinc 1 1, 3) := by decide +kernel
theorem dX8_digest_33 : decode cX8_digest 33 = .ok (.goto (-19), 3) := by decide +kernel
theorem dX8_digest_36 : decode cX8_digest 36 = .ok (.iconst 0, 1) := by decide +kernel
theorem dX8_digest_37 : decode cX8_digest 37 = .ok (.istore_n 1, 1) := by decide +kernel
theorem dX8_digest_38 : decode cX8_digest 38 = .ok (.iload_n 1, 1) := by decide +kernel
theorem dX8_digest_39 : decode cX8_digest 39 = .ok (.aload_n 0, 1) := by decide +kernel
theorem dX8_digest_40 : decode cX8_digest 40 = .ok (.invokevirtual 134, 3) := by decide +kernel
theorem dX8_digest_43 : decode cX8_digest 43 = .ok (.if_icmp .ge 29, 3) := by decide +kernel
theorem dX8_digest_46 : decode cX8_digest 46 = .ok (.aload_n 0, 1) := by decide +kernel
theorem dX8_digest_47 : decode cX8_digest 47 = .ok (.aload_n 0, 1) := by decide +kernel
theorem dX8_digest_48 : decode cX8_digest 48 = .ok (.iload_n 1, 1) := by decide +kernel
theorem dX8_digest_49 : decode cX8_digest 49 = .ok (.invokevirtual 186, 3) := by decide +kernel
theorem dX8_digest_52 : decode cX8_digest 52 = .ok (.i2l, 1) := by decide +kernel
theorem dX8_digest_53 : decode cX8_digest 53 = .ok (.invokevirtual 237, 3) := by decide +kernel
theorem dX8_digest_56 : decode cX8_digest 56 = .ok (.aload_n 0, 1) := by decide +kernel
theorem dX8_digest_57 : decode cX8_digest 57 = .ok (.aload_n 0, 1) := by decide +kernel
theorem dX8_digest_58 : decode cX8_digest 58 = .ok (.iload_n 1, 1) := by decide +kernel
theorem dX8_digest_59 : decode cX8_digest 59 = .ok (.invokevirtual 219, 3) := by decide +kernel
theorem dX8_digest_62 : decode cX8_digest 62 = .ok (.i2l, 1) := by decide +kernel
theorem dX8_digest_63 : decode cX8_digest 63 = .ok (.invokevirtual 237, 3) := by decide +kernel
theorem dX8_digest_66 : decode cX8_digest 66 = .ok (.iinc 1 1, 3) := by decide +kernel
theorem dX8_digest_69 : decode cX8_digest 69 = .ok (.goto (-31), 3) := by decide +kernel
theorem dX8_digest_72 : decode cX8_digest 72 = .ok (.iconst 0, 1) := by decide +kernel
theorem dX8_digest_73 : decode cX8_digest 73 = .ok (.istore_n 1, 1) := by decide +kernel
theorem dX8_digest_74 : decode cX8_digest 74 = .ok (.iload_n 1, 1) := by decide +kernel
theorem dX8_digest_75 : decode cX8_digest 75 = .ok (.aload_n 0, 1) := by decide +kernel
theorem dX8_digest_76 : decode cX8_digest 76 = .ok (.getfield 7, 3) := by decide +kernel
theorem dX8_digest_79 : decode cX8_digest 79 = .ok (.sipush 256, 3) := by decide +kernel
theorem dX8_digest_82 : decode cX8_digest 82 = .ok (.iaload, 1) := by decide +kernel
theorem dX8_digest_83 : decode cX8_digest 83 = .ok (.if_icmp .ge 65, 3) := by decide +kernel
theorem dX8_digest_86 : decode cX8_digest 86 = .ok (.iconst 0, 1) := by decide +kernel
theorem dX8_digest_87 : decode cX8_digest 87 = .ok (.istore_n 2, 1) := by decide +kernel
theorem dX8_digest_88 : decode cX8_digest 88 = .ok (.iload_n 2, 1) := by decide +kernel
theorem dX8_digest_89 : decode cX8_digest 89 = .ok (.iconst 3, 1) := by decide +kernel
theorem dX8_digest_90 : decode cX8_digest 90 = .ok (.if_icmp .ge 28, 3) := by decide +kernel
theorem dX8_digest_93 : decode cX8_digest 93 = .ok (.aload_n 0, 1) := by decide +kernel
theorem dX8_digest_94 : decode cX8_digest 94 = .ok (.aload_n 0, 1) := by decide +kernel
theorem dX8_digest_95 : decode cX8_digest 95 = .ok (.getfield 7, 3) := by decide +kernel
theorem dX8_digest_98 : decode cX8_digest 98 = .ok (.sipush 257, 3) := by decide +kernel
theorem dX8_digest_101 : decode cX8_digest 101 = .ok (.iconst 3, 1) := by decide +kernel
theorem dX8_digest_102 : decode cX8_digest 102 = .ok (.iload_n 1, 1) := by decide +kernel
theorem dX8_digest_103 : decode cX8_digest 103 = .ok (.imul, 1) := by decide +kernel
theorem dX8_digest_104 : decode cX8_digest 104 = .ok (.iadd, 1) := by decide +kernel
theorem dX8_digest_105 : decode cX8_digest 105 = .ok (.iload_n 2, 1) := by decide +kernel
theorem dX8_digest_106 : decode cX8_digest 106 = .ok (.iadd, 1) := by decide +kernel
theorem dX8_digest_107 : decode cX8_digest 107 = .ok (.iaload, 1) := by decide +kernel
theorem dX8_digest_108 : decode cX8_digest 108 = .ok (.i2l, 1) := by decide +kernel
theorem dX8_digest_109 : decode cX8_digest 109 = .ok (.invokevirtual 237, 3) := by decide +kernel
theorem dX8_digest_112 : decode cX8_digest 112 = .ok (.iinc 2 1, 3) := by decide +kernel
theorem dX8_digest_115 : decode cX8_digest 115 = .ok (.goto (-27), 3) := by decide +kernel
theorem dX8_digest_118 : decode cX8_digest 118 = .ok (.iconst 0, 1) := by decide +kernel
theorem dX8_digest_119 : decode cX8_digest 119 = .ok (.istore_n 2, 1) := by decide +kernel
theorem dX8_digest_120 : decode cX8_digest 120 = .ok (.iload_n 2, 1) := by decide +kernel
theorem dX8_digest_121 : decode cX8_digest 121 = .ok (.iconst 3, 1) := by decide +kernel
theorem dX8_digest_122 : decode cX8_digest 122 = .ok (.if_icmp .ge 20, 3) := by decide +kernel
theorem dX8_digest_125 : decode cX8_digest 125 = .ok (.aload_n 0, 1) := by decide +kernel
theorem dX8_digest_126 : decode cX8_digest 126 = .ok (.aload_n 0, 1) := by decide +kernel
theorem dX8_digest_127 : decode cX8_digest 127 = .ok (.iload_n 1, 1) := by decide +kernel
theorem dX8_digest_128 : decode cX8_digest 128 = .ok (.iload_n 2, 1) := by decide +kernel
theorem dX8_digest_129 : decode cX8_digest 129 = .ok (.invokevirtual 216, 3) := by decide +kernel
theorem dX8_digest_132 : decode cX8_digest 132 = .ok (.i2l, 1) := by decide +kernel
theorem dX8_digest_133 : decode cX8_digest 133 = .ok (.invokevirtual 237, 3) := by decide +kernel
theorem dX8_digest_136 : decode cX8_digest 136 = .ok (.iinc 2 1, 3) := by decide +kernel
theorem dX8_digest_139 : decode cX8_digest 139 = .ok (.goto (-19), 3) := by decide +kernel
theorem dX8_digest_142 : decode cX8_digest 142 = .ok (.iinc 1 1, 3) := by decide +kernel
theorem dX8_digest_145 : decode cX8_digest 145 = .ok (.goto (-71), 3) := by decide +kernel
theorem dX8_digest_148 : decode cX8_digest 148 = .ok (.aload_n 0, 1) := by decide +kernel
theorem dX8_digest_149 : decode cX8_digest 149 = .ok (.invokevirtual 148, 3) := by decide +kernel
theorem dX8_digest_152 : decode cX8_digest 152 = .ok (.iconst 0, 1) := by decide +kernel
theorem dX8_digest_153 : decode cX8_digest 153 = .ok (.istore_n 1, 1) := by decide +kernel
theorem dX8_digest_154 : decode cX8_digest 154 = .ok (.iload_n 1, 1) := by decide +kernel
theorem dX8_digest_155 : decode cX8_digest 155 = .ok (.aload_n 0, 1) := by decide +kernel
theorem dX8_digest_156 : decode cX8_digest 156 = .ok (.getfield 86, 3) := by decide +kernel
theorem dX8_digest_159 : decode cX8_digest 159 = .ok (.if_icmp .ge 33, 3) := by decide +kernel
theorem dX8_digest_162 : decode cX8_digest 162 = .ok (.iconst 0, 1) := by decide +kernel
theorem dX8_digest_163 : decode cX8_digest 163 = .ok (.istore_n 2, 1) := by decide +kernel
theorem dX8_digest_164 : decode cX8_digest 164 = .ok (.iload_n 2, 1) := by decide +kernel
theorem dX8_digest_165 : decode cX8_digest 165 = .ok (.iconst 4, 1) := by decide +kernel
theorem dX8_digest_166 : decode cX8_digest 166 = .ok (.if_icmp .ge 20, 3) := by decide +kernel
theorem dX8_digest_169 : decode cX8_digest 169 = .ok (.aload_n 0, 1) := by decide +kernel
theorem dX8_digest_170 : decode cX8_digest 170 = .ok (.aload_n 0, 1) := by decide +kernel
theorem dX8_digest_171 : decode cX8_digest 171 = .ok (.iload_n 1, 1) := by decide +kernel
theorem dX8_digest_172 : decode cX8_digest 172 = .ok (.iload_n 2, 1) := by decide +kernel
theorem dX8_digest_173 : decode cX8_digest 173 = .ok (.invokevirtual 195, 3) := by decide +kernel
theorem dX8_digest_176 : decode cX8_digest 176 = .ok (.i2l, 1) := by decide +kernel
theorem dX8_digest_177 : decode cX8_digest 177 = .ok (.invokevirtual 237, 3) := by decide +kernel
theorem dX8_digest_180 : decode cX8_digest 180 = .ok (.iinc 2 1, 3) := by decide +kernel
theorem dX8_digest_183 : decode cX8_digest 183 = .ok (.goto (-19), 3) := by decide +kernel
theorem dX8_digest_186 : decode cX8_digest 186 = .ok (.iinc 1 1, 3) := by decide +kernel
theorem dX8_digest_189 : decode cX8_digest 189 = .ok (.goto (-35), 3) := by decide +kernel
theorem dX8_digest_192 : decode cX8_digest 192 = .ok (.iconst 0, 1) := by decide +kernel
theorem dX8_digest_193 : decode cX8_digest 193 = .ok (.istore_n 1, 1) := by decide +kernel
theorem dX8_digest_194 : decode cX8_digest 194 = .ok (.iload_n 1, 1) := by decide +kernel
theorem dX8_digest_195 : decode cX8_digest 195 = .ok (.iconst 4, 1) := by decide +kernel
theorem dX8_digest_196 : decode cX8_digest 196 = .ok (.if_icmp .ge 19, 3) := by decide +kernel
theorem dX8_digest_199 : decode cX8_digest 199 = .ok (.aload_n 0, 1) := by decide +kernel
theorem dX8_digest_200 : decode cX8_digest 200 = .ok (.aload_n 0, 1) := by decide +kernel
theorem dX8_digest_201 : decode cX8_digest 201 = .ok (.iload_n 1, 1) := by decide +kernel
theorem dX8_digest_202 : decode cX8_digest 202 = .ok (.invokevirtual 213, 3) := by decide +kernel
theorem dX8_digest_205 : decode cX8_digest 205 = .ok (.i2l, 1) := by decide +kernel
theorem dX8_digest_206 : decode cX8_digest 206 = .ok (.invokevirtual 237, 3) := by decide +kernel
theorem dX8_digest_209 : decode cX8_digest 209 = .ok (.iinc 1 1, 3) := by decide +kernel
theorem dX8_digest_212 : decode cX8_digest 212 = .ok (.goto (-18), 3) := by decide +kernel
theorem dX8_digest_215 : decode cX8_digest 215 = .ok (.iconst 0, 1) := by decide +kernel
theorem dX8_digest_216 : decode cX8_digest 216 = .ok (.istore_n 1, 1) := by decide +kernel
theorem dX8_digest_217 : decode cX8_digest 217 = .ok (.iload_n 1, 1) := by decide +kernel
theorem dX8_digest_218 : decode cX8_digest 218 = .ok (.iconst 4, 1) := by decide +kernel
theorem dX8_digest_219 : decode cX8_digest 219 = .ok (.if_icmp .ge 41, 3) := by decide +kernel
theorem dX8_digest_222 : decode cX8_digest 222 = .ok (.aload_n 0, 1) := by decide +kernel
theorem dX8_digest_223 : decode cX8_digest 223 = .ok (.aload_n 0, 1) := by decide +kernel
theorem dX8_digest_224 : decode cX8_digest 224 = .ok (.bipush 64, 2) := by decide +kernel
theorem dX8_digest_226 : decode cX8_digest 226 = .ok (.iload_n 1, 1) := by decide +kernel
theorem dX8_digest_227 : decode cX8_digest 227 = .ok (.imul, 1) := by decide +kernel
theorem dX8_digest_228 : decode cX8_digest 228 = .ok (.bipush 36, 2) := by decide +kernel
theorem dX8_digest_230 : decode cX8_digest 230 = .ok (.iadd, 1) := by decide +kernel
theorem dX8_digest_231 : decode cX8_digest 231 = .ok (.invokevirtual 204, 3) := by decide +kernel
theorem dX8_digest_234 : decode cX8_digest 234 = .ok (.i2l, 1) := by decide +kernel
theorem dX8_digest_235 : decode cX8_digest 235 = .ok (.invokevirtual 237, 3) := by decide +kernel
theorem dX8_digest_238 : decode cX8_digest 238 = .ok (.aload_n 0, 1) := by decide +kernel
theorem dX8_digest_239 : decode cX8_digest 239 = .ok (.aload_n 0, 1) := by decide +kernel
theorem dX8_digest_240 : decode cX8_digest 240 = .ok (.bipush 64, 2) := by decide +kernel
theorem dX8_digest_242 : decode cX8_digest 242 = .ok (.iload_n 1, 1) := by decide +kernel
theorem dX8_digest_243 : decode cX8_digest 243 = .ok (.imul, 1) := by decide +kernel
theorem dX8_digest_244 : decode cX8_digest 244 = .ok (.bipush 37, 2) := by decide +kernel
theorem dX8_digest_246 : decode cX8_digest 246 = .ok (.iadd, 1) := by decide +kernel
theorem dX8_digest_247 : decode cX8_digest 247 = .ok (.invokevirtual 210, 3) := by decide +kernel
theorem dX8_digest_250 : decode cX8_digest 250 = .ok (.i2l, 1) := by decide +kernel
theorem dX8_digest_251 : decode cX8_digest 251 = .ok (.invokevirtual 237, 3) := by decide +kernel
theorem dX8_digest_254 : decode cX8_digest 254 = .ok (.iinc 1 1, 3) := by decide +kernel
theorem dX8_digest_257 : decode cX8_digest 257 = .ok (.goto (-40), 3) := by decide +kernel
theorem dX8_digest_260 : decode cX8_digest 260 = .ok (.aload_n 0, 1) := by decide +kernel
theorem dX8_digest_261 : decode cX8_digest 261 = .ok (.aload_n 0, 1) := by decide +kernel
theorem dX8_digest_262 : decode cX8_digest 262 = .ok (.iconst 0, 1) := by decide +kernel
theorem dX8_digest_263 : decode cX8_digest 263 = .ok (.invokevirtual 222, 3) := by decide +kernel
theorem dX8_digest_266 : decode cX8_digest 266 = .ok (.i2l, 1) := by decide +kernel
theorem dX8_digest_267 : decode cX8_digest 267 = .ok (.invokevirtual 237, 3) := by decide +kernel
theorem dX8_digest_270 : decode cX8_digest 270 = .ok (.aload_n 0, 1) := by decide +kernel
theorem dX8_digest_271 : decode cX8_digest 271 = .ok (.aload_n 0, 1) := by decide +kernel
theorem dX8_digest_272 : decode cX8_digest 272 = .ok (.invokevirtual 225, 3) := by decide +kernel
theorem dX8_digest_275 : decode cX8_digest 275 = .ok (.invokestatic 241, 3) := by decide +kernel
theorem dX8_digest_278 : decode cX8_digest 278 = .ok (.invokevirtual 237, 3) := by decide +kernel
theorem dX8_digest_281 : decode cX8_digest 281 = .ok (.aload_n 0, 1) := by decide +kernel
theorem dX8_digest_282 : decode cX8_digest 282 = .ok (.aload_n 0, 1) := by decide +kernel
theorem dX8_digest_283 : decode cX8_digest 283 = .ok (.getfield 151, 3) := by decide +kernel
theorem dX8_digest_286 : decode cX8_digest 286 = .ok (.i2l, 1) := by decide +kernel
theorem dX8_digest_287 : decode cX8_digest 287 = .ok (.invokevirtual 237, 3) := by decide +kernel
theorem dX8_digest_290 : decode cX8_digest 290 = .ok (.iconst 0, 1) := by decide +kernel
theorem dX8_digest_291 : decode cX8_digest 291 = .ok (.istore_n 1, 1) := by decide +kernel
theorem dX8_digest_292 : decode cX8_digest 292 = .ok (.iload_n 1, 1) := by decide +kernel
theorem dX8_digest_293 : decode cX8_digest 293 = .ok (.aload_n 0, 1) := by decide +kernel
theorem dX8_digest_294 : decode cX8_digest 294 = .ok (.getfield 151, 3) := by decide +kernel
theorem dX8_digest_297 : decode cX8_digest 297 = .ok (.if_icmp .ge 20, 3) := by decide +kernel
theorem dX8_digest_300 : decode cX8_digest 300 = .ok (.aload_n 0, 1) := by decide +kernel
theorem dX8_digest_301 : decode cX8_digest 301 = .ok (.aload_n 0, 1) := by decide +kernel
theorem dX8_digest_302 : decode cX8_digest 302 = .ok (.getfield 16, 3) := by decide +kernel
theorem dX8_digest_305 : decode cX8_digest 305 = .ok (.iload_n 1, 1) := by decide +kernel
theorem dX8_digest_306 : decode cX8_digest 306 = .ok (.iaload, 1) := by decide +kernel
theorem dX8_digest_307 : decode cX8_digest 307 = .ok (.i2l, 1) := by decide +kernel
theorem dX8_digest_308 : decode cX8_digest 308 = .ok (.invokevirtual 237, 3) := by decide +kernel
theorem dX8_digest_311 : decode cX8_digest 311 = .ok (.iinc 1 1, 3) := by decide +kernel
theorem dX8_digest_314 : decode cX8_digest 314 = .ok (.goto (-22), 3) := by decide +kernel
theorem dX8_digest_317 : decode cX8_digest 317 = .ok (.aload_n 0, 1) := by decide +kernel
theorem dX8_digest_318 : decode cX8_digest 318 = .ok (.getfield 231, 3) := by decide +kernel
theorem dX8_digest_321 : decode cX8_digest 321 = .ok (.lreturn, 1) := by decide +kernel
theorem dJxe99ae_isNaN_b9ae7_0 : decode cJxe99ae_isNaN_b9ae7 0 = .ok (.dload_n 0, 1) := by decide +kernel
theorem dJxe99ae_isNaN_b9ae7_1 : decode cJxe99ae_isNaN_b9ae7 1 = .ok (.dload_n 0, 1) := by decide +kernel
theorem dJxe99ae_isNaN_b9ae7_2 : decode cJxe99ae_isNaN_b9ae7 2 = .ok (.dcmp .l, 1) := by decide +kernel
theorem dJxe99ae_isNaN_b9ae7_3 : decode cJxe99ae_isNaN_b9ae7 3 = .ok (.ifCond .eq 7, 3) := by decide +kernel
theorem dJxe99ae_isNaN_b9ae7_6 : decode cJxe99ae_isNaN_b9ae7 6 = .ok (.iconst 1, 1) := by decide +kernel
theorem dJxe99ae_isNaN_b9ae7_7 : decode cJxe99ae_isNaN_b9ae7 7 = .ok (.goto 4, 3) := by decide +kernel
theorem dJxe99ae_isNaN_b9ae7_10 : decode cJxe99ae_isNaN_b9ae7 10 = .ok (.iconst 0, 1) := by decide +kernel
theorem dJxe99ae_isNaN_b9ae7_11 : decode cJxe99ae_isNaN_b9ae7 11 = .ok (.ireturn, 1) := by decide +kernel
theorem dJxe99ae_doubleToLongBits_ccdee_0 : decode cJxe99ae_doubleToLongBits_ccdee 0 = .ok (.dload_n 0, 1) := by decide +kernel
theorem dJxe99ae_doubleToLongBits_ccdee_1 : decode cJxe99ae_doubleToLongBits_ccdee 1 = .ok (.invokestatic 122, 3) := by decide +kernel
theorem dJxe99ae_doubleToLongBits_ccdee_4 : decode cJxe99ae_doubleToLongBits_ccdee 4 = .ok (.ifCond .ne 8, 3) := by decide +kernel
theorem dJxe99ae_doubleToLongBits_ccdee_7 : decode cJxe99ae_doubleToLongBits_ccdee 7 = .ok (.dload_n 0, 1) := by decide +kernel
theorem dJxe99ae_doubleToLongBits_ccdee_8 : decode cJxe99ae_doubleToLongBits_ccdee 8 = .ok (.invokestatic 134, 3) := by decide +kernel
theorem dJxe99ae_doubleToLongBits_ccdee_11 : decode cJxe99ae_doubleToLongBits_ccdee 11 = .ok (.lreturn, 1) := by decide +kernel
theorem dJxe99ae_doubleToLongBits_ccdee_12 : decode cJxe99ae_doubleToLongBits_ccdee 12 = .ok (.ldc2_w 137, 3) := by decide +kernel
theorem dJxe99ae_doubleToLongBits_ccdee_15 : decode cJxe99ae_doubleToLongBits_ccdee 15 = .ok (.lreturn, 1) := by decide +kernel
theorem dJ6_bitCount_0f7a4_0 : decode cJ6_bitCount_0f7a4 0 = .ok (.iload_n 0, 1) := by decide +kernel
theorem dJ6_bitCount_0f7a4_1 : decode cJ6_bitCount_0f7a4 1 = .ok (.iload_n 0, 1) := by decide +kernel
theorem dJ6_bitCount_0f7a4_2 : decode cJ6_bitCount_0f7a4 2 = .ok (.iconst 1, 1) := by decide +kernel
theorem dJ6_bitCount_0f7a4_3 : decode cJ6_bitCount_0f7a4 3 = .ok (.iushr, 1) := by decide +kernel
theorem dJ6_bitCount_0f7a4_4 : decode cJ6_bitCount_0f7a4 4 = .ok (.ldc_w 265, 3) := by decide +kernel
theorem dJ6_bitCount_0f7a4_7 : decode cJ6_bitCount_0f7a4 7 = .ok (.iand, 1) := by decide +kernel
theorem dJ6_bitCount_0f7a4_8 : decode cJ6_bitCount_0f7a4 8 = .ok (.isub, 1) := by decide +kernel
theorem dJ6_bitCount_0f7a4_9 : decode cJ6_bitCount_0f7a4 9 = .ok (.istore_n 0, 1) := by decide +kernel
theorem dJ6_bitCount_0f7a4_10 : decode cJ6_bitCount_0f7a4 10 = .ok (.iload_n 0, 1) := by decide +kernel
theorem dJ6_bitCount_0f7a4_11 : decode cJ6_bitCount_0f7a4 11 = .ok (.ldc_w 266, 3) := by decide +kernel
theorem dJ6_bitCount_0f7a4_14 : decode cJ6_bitCount_0f7a4 14 = .ok (.iand, 1) := by decide +kernel
theorem dJ6_bitCount_0f7a4_15 : decode cJ6_bitCount_0f7a4 15 = .ok (.iload_n 0, 1) := by decide +kernel
theorem dJ6_bitCount_0f7a4_16 : decode cJ6_bitCount_0f7a4 16 = .ok (.iconst 2, 1) := by decide +kernel
theorem dJ6_bitCount_0f7a4_17 : decode cJ6_bitCount_0f7a4 17 = .ok (.iushr, 1) := by decide +kernel
theorem dJ6_bitCount_0f7a4_18 : decode cJ6_bitCount_0f7a4 18 = .ok (.ldc_w 266, 3) := by decide +kernel
theorem dJ6_bitCount_0f7a4_21 : decode cJ6_bitCount_0f7a4 21 = .ok (.iand, 1) := by decide +kernel
theorem dJ6_bitCount_0f7a4_22 : decode cJ6_bitCount_0f7a4 22 = .ok (.iadd, 1) := by decide +kernel
theorem dJ6_bitCount_0f7a4_23 : decode cJ6_bitCount_0f7a4 23 = .ok (.istore_n 0, 1) := by decide +kernel
theorem dJ6_bitCount_0f7a4_24 : decode cJ6_bitCount_0f7a4 24 = .ok (.iload_n 0, 1) := by decide +kernel
theorem dJ6_bitCount_0f7a4_25 : decode cJ6_bitCount_0f7a4 25 = .ok (.iload_n 0, 1) := by decide +kernel
theorem dJ6_bitCount_0f7a4_26 : decode cJ6_bitCount_0f7a4 26 = .ok (.iconst 4, 1) := by decide +kernel
theorem dJ6_bitCount_0f7a4_27 : decode cJ6_bitCount_0f7a4 27 = .ok (.iushr, 1) := by decide +kernel
theorem dJ6_bitCount_0f7a4_28 : decode cJ6_bitCount_0f7a4 28 = .ok (.iadd, 1) := by decide +kernel
theorem dJ6_bitCount_0f7a4_29 : decode cJ6_bitCount_0f7a4 29 = .ok (.ldc_w 267, 3) := by decide +kernel
theorem dJ6_bitCount_0f7a4_32 : decode cJ6_bitCount_0f7a4 32 = .ok (.iand, 1) := by decide +kernel
theorem dJ6_bitCount_0f7a4_33 : decode cJ6_bitCount_0f7a4 33 = .ok (.istore_n 0, 1) := by decide +kernel
theorem dJ6_bitCount_0f7a4_34 : decode cJ6_bitCount_0f7a4 34 = .ok (.iload_n 0, 1) := by decide +kernel
theorem dJ6_bitCount_0f7a4_35 : decode cJ6_bitCount_0f7a4 35 = .ok (.iload_n 0, 1) := by decide +kernel
theorem dJ6_bitCount_0f7a4_36 : decode cJ6_bitCount_0f7a4 36 = .ok (.bipush 8, 2) := by decide +kernel
theorem dJ6_bitCount_0f7a4_38 : decode cJ6_bitCount_0f7a4 38 = .ok (.iushr, 1) := by decide +kernel
theorem dJ6_bitCount_0f7a4_39 : decode cJ6_bitCount_0f7a4 39 = .ok (.iadd, 1) := by decide +kernel
theorem dJ6_bitCount_0f7a4_40 : decode cJ6_bitCount_0f7a4 40 = .ok (.istore_n 0, 1) := by decide +kernel
theorem dJ6_bitCount_0f7a4_41 : decode cJ6_bitCount_0f7a4 41 = .ok (.iload_n 0, 1) := by decide +kernel
theorem dJ6_bitCount_0f7a4_42 : decode cJ6_bitCount_0f7a4 42 = .ok (.iload_n 0, 1) := by decide +kernel
theorem dJ6_bitCount_0f7a4_43 : decode cJ6_bitCount_0f7a4 43 = .ok (.bipush 16, 2) := by decide +kernel
theorem dJ6_bitCount_0f7a4_45 : decode cJ6_bitCount_0f7a4 45 = .ok (.iushr, 1) := by decide +kernel
theorem dJ6_bitCount_0f7a4_46 : decode cJ6_bitCount_0f7a4 46 = .ok (.iadd, 1) := by decide +kernel
theorem dJ6_bitCount_0f7a4_47 : decode cJ6_bitCount_0f7a4 47 = .ok (.istore_n 0, 1) := by decide +kernel
theorem dJ6_bitCount_0f7a4_48 : decode cJ6_bitCount_0f7a4 48 = .ok (.iload_n 0, 1) := by decide +kernel
theorem dJ6_bitCount_0f7a4_49 : decode cJ6_bitCount_0f7a4 49 = .ok (.bipush 63, 2) := by decide +kernel
theorem dJ6_bitCount_0f7a4_51 : decode cJ6_bitCount_0f7a4 51 = .ok (.iand, 1) := by decide +kernel
theorem dJ6_bitCount_0f7a4_52 : decode cJ6_bitCount_0f7a4 52 = .ok (.ireturn, 1) := by decide +kernel
theorem dJ13_bitCount_95d88_0 : decode cJ13_bitCount_95d88 0 = .ok (.lload_n 0, 1) := by decide +kernel
theorem dJ13_bitCount_95d88_1 : decode cJ13_bitCount_95d88 1 = .ok (.lload_n 0, 1) := by decide +kernel
theorem dJ13_bitCount_95d88_2 : decode cJ13_bitCount_95d88 2 = .ok (.iconst 1, 1) := by decide +kernel
theorem dJ13_bitCount_95d88_3 : decode cJ13_bitCount_95d88 3 = .ok (.lushr, 1) := by decide +kernel
theorem dJ13_bitCount_95d88_4 : decode cJ13_bitCount_95d88 4 = .ok (.ldc2_w 314, 3) := by decide +kernel
theorem dJ13_bitCount_95d88_7 : decode cJ13_bitCount_95d88 7 = .ok (.land, 1) := by decide +kernel
theorem dJ13_bitCount_95d88_8 : decode cJ13_bitCount_95d88 8 = .ok (.lsub, 1) := by decide +kernel
theorem dJ13_bitCount_95d88_9 : decode cJ13_bitCount_95d88 9 = .ok (.lstore_n 0, 1) := by decide +kernel
theorem dJ13_bitCount_95d88_10 : decode cJ13_bitCount_95d88 10 = .ok (.lload_n 0, 1) := by decide +kernel
theorem dJ13_bitCount_95d88_11 : decode cJ13_bitCount_95d88 11 = .ok (.ldc2_w 316, 3) := by decide +kernel
theorem dJ13_bitCount_95d88_14 : decode cJ13_bitCount_95d88 14 = .ok (.land, 1) := by decide +kernel
theorem dJ13_bitCount_95d88_15 : decode cJ13_bitCount_95d88 15 = .ok (.lload_n 0, 1) := by decide +kernel
theorem dJ13_bitCount_95d88_16 : decode cJ13_bitCount_95d88 16 = .ok (.iconst 2, 1) := by decide +kernel
theorem dJ13_bitCount_95d88_17 : decode cJ13_bitCount_95d88 17 = .ok (.lushr, 1) := by decide +kernel
theorem dJ13_bitCount_95d88_18 : decode cJ13_bitCount_95d88 18 = .ok (.ldc2_w 316, 3) := by decide +kernel
theorem dJ13_bitCount_95d88_21 : decode cJ13_bitCount_95d88 21 = .ok (.land, 1) := by decide +kernel
theorem dJ13_bitCount_95d88_22 : decode cJ13_bitCount_95d88 22 = .ok (.ladd, 1) := by decide +kernel
theorem dJ13_bitCount_95d88_23 : decode cJ13_bitCount_95d88 23 = .ok (.lstore_n 0, 1) := by decide +kernel
theorem dJ13_bitCount_95d88_24 : decode cJ13_bitCount_95d88 24 = .ok (.lload_n 0, 1) := by decide +kernel
theorem dJ13_bitCount_95d88_25 : decode cJ13_bitCount_95d88 25 = .ok (.lload_n 0, 1) := by decide +kernel
theorem dJ13_bitCount_95d88_26 : decode cJ13_bitCount_95d88 26 = .ok (.iconst 4, 1) := by decide +kernel
theorem dJ13_bitCount_95d88_27 : decode cJ13_bitCount_95d88 27 = .ok (.lushr, 1) := by decide +kernel
theorem dJ13_bitCount_95d88_28 : decode cJ13_bitCount_95d88 28 = .ok (.ladd, 1) := by decide +kernel
theorem dJ13_bitCount_95d88_29 : decode cJ13_bitCount_95d88 29 = .ok (.ldc2_w 318, 3) := by decide +kernel
theorem dJ13_bitCount_95d88_32 : decode cJ13_bitCount_95d88 32 = .ok (.land, 1) := by decide +kernel
theorem dJ13_bitCount_95d88_33 : decode cJ13_bitCount_95d88 33 = .ok (.lstore_n 0, 1) := by decide +kernel
theorem dJ13_bitCount_95d88_34 : decode cJ13_bitCount_95d88 34 = .ok (.lload_n 0, 1) := by decide +kernel
theorem dJ13_bitCount_95d88_35 : decode cJ13_bitCount_95d88 35 = .ok (.lload_n 0, 1) := by decide +kernel
theorem dJ13_bitCount_95d88_36 : decode cJ13_bitCount_95d88 36 = .ok (.bipush 8, 2) := by decide +kernel
theorem dJ13_bitCount_95d88_38 : decode cJ13_bitCount_95d88 38 = .ok (.lushr, 1) := by decide +kernel
theorem dJ13_bitCount_95d88_39 : decode cJ13_bitCount_95d88 39 = .ok (.ladd, 1) := by decide +kernel
theorem dJ13_bitCount_95d88_40 : decode cJ13_bitCount_95d88 40 = .ok (.lstore_n 0, 1) := by decide +kernel
theorem dJ13_bitCount_95d88_41 : decode cJ13_bitCount_95d88 41 = .ok (.lload_n 0, 1) := by decide +kernel
theorem dJ13_bitCount_95d88_42 : decode cJ13_bitCount_95d88 42 = .ok (.lload_n 0, 1) := by decide +kernel
theorem dJ13_bitCount_95d88_43 : decode cJ13_bitCount_95d88 43 = .ok (.bipush 16, 2) := by decide +kernel
theorem dJ13_bitCount_95d88_45 : decode cJ13_bitCount_95d88 45 = .ok (.lushr, 1) := by decide +kernel
theorem dJ13_bitCount_95d88_46 : decode cJ13_bitCount_95d88 46 = .ok (.ladd, 1) := by decide +kernel
theorem dJ13_bitCount_95d88_47 : decode cJ13_bitCount_95d88 47 = .ok (.lstore_n 0, 1) := by decide +kernel
theorem dJ13_bitCount_95d88_48 : decode cJ13_bitCount_95d88 48 = .ok (.lload_n 0, 1) := by decide +kernel
theorem dJ13_bitCount_95d88_49 : decode cJ13_bitCount_95d88 49 = .ok (.lload_n 0, 1) := by decide +kernel
theorem dJ13_bitCount_95d88_50 : decode cJ13_bitCount_95d88 50 = .ok (.bipush 32, 2) := by decide +kernel
theorem dJ13_bitCount_95d88_52 : decode cJ13_bitCount_95d88 52 = .ok (.lushr, 1) := by decide +kernel
theorem dJ13_bitCount_95d88_53 : decode cJ13_bitCount_95d88 53 = .ok (.ladd, 1) := by decide +kernel
theorem dJ13_bitCount_95d88_54 : decode cJ13_bitCount_95d88 54 = .ok (.lstore_n 0, 1) := by decide +kernel
theorem dJ13_bitCount_95d88_55 : decode cJ13_bitCount_95d88 55 = .ok (.lload_n 0, 1) := by decide +kernel
theorem dJ13_bitCount_95d88_56 : decode cJ13_bitCount_95d88 56 = .ok (.l2i, 1) := by decide +kernel
theorem dJ13_bitCount_95d88_57 : decode cJ13_bitCount_95d88 57 = .ok (.bipush 127, 2) := by decide +kernel
theorem dJ13_bitCount_95d88_59 : decode cJ13_bitCount_95d88 59 = .ok (.iand, 1) := by decide +kernel
theorem dJ13_bitCount_95d88_60 : decode cJ13_bitCount_95d88 60 = .ok (.ireturn, 1) := by decide +kernel
theorem dJ9_max_7cf53_0 : decode cJ9_max_7cf53 0 = .ok (.iload_n 0, 1) := by decide +kernel
theorem dJ9_max_7cf53_1 : decode cJ9_max_7cf53 1 = .ok (.iload_n 1, 1) := by decide +kernel
theorem dJ9_max_7cf53_2 : decode cJ9_max_7cf53 2 = .ok (.if_icmp .lt 7, 3) := by decide +kernel
theorem dJ9_max_7cf53_5 : decode cJ9_max_7cf53 5 = .ok (.iload_n 0, 1) := by decide +kernel
theorem dJ9_max_7cf53_6 : decode cJ9_max_7cf53 6 = .ok (.goto 4, 3) := by decide +kernel
theorem dJ9_max_7cf53_9 : decode cJ9_max_7cf53 9 = .ok (.iload_n 1, 1) := by decide +kernel
theorem dJ9_max_7cf53_10 : decode cJ9_max_7cf53 10 = .ok (.ireturn, 1) := by decide +kernel
theorem dJ9_min_7cf53_0 : decode cJ9_min_7cf53 0 = .ok (.iload_n 0, 1) := by decide +kernel
theorem dJ9_min_7cf53_1 : decode cJ9_min_7cf53 1 = .ok (.iload_n 1, 1) := by decide +kernel
theorem dJ9_min_7cf53_2 : decode cJ9_min_7cf53 2 = .ok (.if_icmp .gt 7, 3) := by decide +kernel
theorem dJ9_min_7cf53_5 : decode cJ9_min_7cf53 5 = .ok (.iload_n 0, 1) := by decide +kernel
theorem dJ9_min_7cf53_6 : decode cJ9_min_7cf53 6 = .ok (.goto 4, 3) := by decide +kernel
theorem dJ9_min_7cf53_9 : decode cJ9_min_7cf53 9 = .ok (.iload_n 1, 1) := by decide +kernel
theorem dJ9_min_7cf53_10 : decode cJ9_min_7cf53 10 = .ok (.ireturn, 1) := by decide +kernel
theorem dJ7_fill_53178_0 : decode cJ7_fill_53178 0 = .ok (.iconst 0, 1) := by decide +kernel
theorem dJ7_fill_53178_1 : decode cJ7_fill_53178 1 = .ok (.istore_n 2, 1) := by decide +kernel
theorem dJ7_fill_53178_2 : decode cJ7_fill_53178 2 = .ok (.aload_n 0, 1) := by decide +kernel
theorem dJ7_fill_53178_3 : decode cJ7_fill_53178 3 = .ok (.arraylength, 1) := by decide +kernel
theorem dJ7_fill_53178_4 : decode cJ7_fill_53178 4 = .ok (.istore_n 3, 1) := by decide +kernel
theorem dJ7_fill_53178_5 : decode cJ7_fill_53178 5 = .ok (.iload_n 2, 1) := by decide +kernel
theorem dJ7_fill_53178_6 : decode cJ7_fill_53178 6 = .ok (.iload_n 3, 1) := by decide +kernel
theorem dJ7_fill_53178_7 : decode cJ7_fill_53178 7 = .ok (.if_icmp .ge 13, 3) := by decide +kernel
theorem dJ7_fill_53178_10 : decode cJ7_fill_53178 10 = .ok (.aload_n 0, 1) := by decide +kernel
theorem dJ7_fill_53178_11 : decode cJ7_fill_53178 11 = .ok (.iload_n 2, 1) := by decide +kernel
theorem dJ7_fill_53178_12 : decode cJ7_fill_53178 12 = .ok (.iload_n 1, 1) := by decide +kernel
theorem dJ7_fill_53178_13 : decode cJ7_fill_53178 13 = .ok (.iastore, 1) := by decide +kernel
theorem dJ7_fill_53178_14 : decode cJ7_fill_53178 14 = .ok (.iinc 2 1, 3) := by decide +kernel
theorem dJ7_fill_53178_17 : decode cJ7_fill_53178 17 = .ok (.goto (-12), 3) := by decide +kernel
theorem dJ7_fill_53178_20 : decode cJ7_fill_53178 20 = .ok (.return_, 1) := by decide +kernel
theorem dL_tell_0 : decode cL_tell 0 = .ok (.aload 4, 2) := by decide +kernel
theorem dL_tell_2 : decode cL_tell 2 = .ok (.iconst 0, 1) := by decide +kernel
theorem dL_tell_3 : decode cL_tell 3 = .ok (.aload_n 0, 1) := by decide +kernel
theorem dL_tell_4 : decode cL_tell 4 = .ok (.iload_n 1, 1) := by decide +kernel
theorem dL_tell_5 : decode cL_tell 5 = .ok (.iload_n 2, 1) := by decide +kernel
theorem dL_tell_6 : decode cL_tell 6 = .ok (.iload_n 3, 1) := by decide +kernel
theorem dL_tell_7 : decode cL_tell 7 = .ok (.invokevirtual 7, 3) := by decide +kernel
theorem dL_tell_10 : decode cL_tell 10 = .ok (.i2l, 1) := by decide +kernel
theorem dL_tell_11 : decode cL_tell 11 = .ok (.lastore, 1) := by decide +kernel
theorem dL_tell_12 : decode cL_tell 12 = .ok (.goto 11, 3) := by decide +kernel
theorem dL_tell_15 : decode cL_tell 15 = .ok (.astore 5, 2) := by decide +kernel
theorem dL_tell_17 : decode cL_tell 17 = .ok (.iconst 1, 1) := by decide +kernel
theorem dL_tell_18 : decode cL_tell 18 = .ok (.ireturn, 1) := by decide +kernel
theorem dL_tell_19 : decode cL_tell 19 = .ok (.astore 5, 2) := by decide +kernel
theorem dL_tell_21 : decode cL_tell 21 = .ok (.iconst 2, 1) := by decide +kernel
theorem dL_tell_22 : decode cL_tell 22 = .ok (.ireturn, 1) := by decide +kernel
theorem dL_tell_23 : decode cL_tell 23 = .ok (.iconst 0, 1) := by decide +kernel
theorem dL_tell_24 : decode cL_tell 24 = .ok (.ireturn, 1) := by decide +kernel
theorem dL_untell_0 : decode cL_untell 0 = .ok (.aload 4, 2) := by decide +kernel
theorem dL_untell_2 : decode cL_untell 2 = .ok (.iconst 0, 1) := by decide +kernel
theorem dL_untell_3 : decode cL_untell 3 = .ok (.aload_n 0, 1) := by decide +kernel
theorem dL_untell_4 : decode cL_untell 4 = .ok (.iload_n 1, 1) := by decide +kernel
theorem dL_untell_5 : decode cL_untell 5 = .ok (.iload_n 2, 1) := by decide +kernel
theorem dL_untell_6 : decode cL_untell 6 = .ok (.iload_n 3, 1) := by decide +kernel
theorem dL_untell_7 : decode cL_untell 7 = .ok (.invokevirtual 17, 3) := by decide +kernel
theorem dL_untell_10 : decode cL_untell 10 = .ok (.i2l, 1) := by decide +kernel
theorem dL_untell_11 : decode cL_untell 11 = .ok (.lastore, 1) := by decide +kernel
theorem dL_untell_12 : decode cL_untell 12 = .ok (.goto 7, 3) := by decide +kernel
theorem dL_untell_15 : decode cL_untell 15 = .ok (.astore 5, 2) := by decide +kernel
theorem dL_untell_17 : decode cL_untell 17 = .ok (.iconst 1, 1) := by decide +kernel
theorem dL_untell_18 : decode cL_untell 18 = .ok (.ireturn, 1) := by decide +kernel
theorem dL_untell_19 : decode cL_untell 19 = .ok (.iconst 0, 1) := by decide +kernel
theorem dL_untell_20 : decode cL_untell 20 = .ok (.ireturn, 1) := by decide +kernel
theorem dL_rule_0 : decode cL_rule 0 = .ok (.aload_n 3, 1) := by decide +kernel
theorem dL_rule_1 : decode cL_rule 1 = .ok (.iconst 0, 1) := by decide +kernel
theorem dL_rule_2 : decode cL_rule 2 = .ok (.aload_n 0, 1) := by decide +kernel
theorem dL_rule_3 : decode cL_rule 3 = .ok (.iload_n 1, 1) := by decide +kernel
theorem dL_rule_4 : decode cL_rule 4 = .ok (.iload_n 2, 1) := by decide +kernel
theorem dL_rule_5 : decode cL_rule 5 = .ok (.invokevirtual 20, 3) := by decide +kernel
theorem dL_rule_8 : decode cL_rule 8 = .ok (.i2l, 1) := by decide +kernel
theorem dL_rule_9 : decode cL_rule 9 = .ok (.lastore, 1) := by decide +kernel
theorem dL_rule_10 : decode cL_rule 10 = .ok (.goto 11, 3) := by decide +kernel
theorem dL_rule_13 : decode cL_rule 13 = .ok (.astore 4, 2) := by decide +kernel
theorem dL_rule_15 : decode cL_rule 15 = .ok (.iconst 1, 1) := by decide +kernel
theorem dL_rule_16 : decode cL_rule 16 = .ok (.ireturn, 1) := by decide +kernel
theorem dL_rule_17 : decode cL_rule 17 = .ok (.astore 4, 2) := by decide +kernel
theorem dL_rule_19 : decode cL_rule 19 = .ok (.iconst 2, 1) := by decide +kernel
theorem dL_rule_20 : decode cL_rule 20 = .ok (.ireturn, 1) := by decide +kernel
theorem dL_rule_21 : decode cL_rule 21 = .ok (.iconst 0, 1) := by decide +kernel
theorem dL_rule_22 : decode cL_rule 22 = .ok (.ireturn, 1) := by decide +kernel
theorem dL_joining_0 : decode cL_joining 0 = .ok (.aload 4, 2) := by decide +kernel
theorem dL_joining_2 : decode cL_joining 2 = .ok (.iconst 0, 1) := by decide +kernel
theorem dL_joining_3 : decode cL_joining 3 = .ok (.aload_n 0, 1) := by decide +kernel
theorem dL_joining_4 : decode cL_joining 4 = .ok (.iload_n 1, 1) := by decide +kernel
theorem dL_joining_5 : decode cL_joining 5 = .ok (.iload_n 2, 1) := by decide +kernel
theorem dL_joining_6 : decode cL_joining 6 = .ok (.iload_n 3, 1) := by decide +kernel
theorem dL_joining_7 : decode cL_joining 7 = .ok (.invokevirtual 24, 3) := by decide +kernel
theorem dL_joining_10 : decode cL_joining 10 = .ok (.i2l, 1) := by decide +kernel
theorem dL_joining_11 : decode cL_joining 11 = .ok (.lastore, 1) := by decide +kernel
theorem dL_joining_12 : decode cL_joining 12 = .ok (.goto 11, 3) := by decide +kernel
theorem dL_joining_15 : decode cL_joining 15 = .ok (.astore 5, 2) := by decide +kernel
theorem dL_joining_17 : decode cL_joining 17 = .ok (.iconst 1, 1) := by decide +kernel
theorem dL_joining_18 : decode cL_joining 18 = .ok (.ireturn, 1) := by decide +kernel
theorem dL_joining_19 : decode cL_joining 19 = .ok (.astore 5, 2) := by decide +kernel
theorem dL_joining_21 : decode cL_joining 21 = .ok (.iconst 2, 1) := by decide +kernel
theorem dL_joining_22 : decode cL_joining 22 = .ok (.ireturn, 1) := by decide +kernel
theorem dL_joining_23 : decode cL_joining 23 = .ok (.iconst 0, 1) := by decide +kernel
theorem dL_joining_24 : decode cL_joining 24 = .ok (.ireturn, 1) := by decide +kernel
theorem dL_remove_0 : decode cL_remove 0 = .ok (.aload_n 2, 1) := by decide +kernel
theorem dL_remove_1 : decode cL_remove 1 = .ok (.iconst 0, 1) := by decide +kernel
theorem dL_remove_2 : decode cL_remove 2 = .ok (.aload_n 0, 1) := by decide +kernel
theorem dL_remove_3 : decode cL_remove 3 = .ok (.iload_n 1, 1) := by decide +kernel
theorem dL_remove_4 : decode cL_remove 4 = .ok (.invokevirtual 27, 3) := by decide +kernel
theorem dL_remove_7 : decode cL_remove 7 = .ok (.i2l, 1) := by decide +kernel
theorem dL_remove_8 : decode cL_remove 8 = .ok (.lastore, 1) := by decide +kernel
theorem dL_remove_9 : decode cL_remove 9 = .ok (.goto 6, 3) := by decide +kernel
theorem dL_remove_12 : decode cL_remove 12 = .ok (.astore_n 3, 1) := by decide +kernel
theorem dL_remove_13 : decode cL_remove 13 = .ok (.iconst 1, 1) := by decide +kernel
theorem dL_remove_14 : decode cL_remove 14 = .ok (.ireturn, 1) := by decide +kernel
theorem dL_remove_15 : decode cL_remove 15 = .ok (.iconst 0, 1) := by decide +kernel
theorem dL_remove_16 : decode cL_remove 16 = .ok (.ireturn, 1) := by decide +kernel
theorem dL_settle_0 : decode cL_settle 0 = .ok (.aload_n 1, 1) := by decide +kernel
theorem dL_settle_1 : decode cL_settle 1 = .ok (.iconst 0, 1) := by decide +kernel
theorem dL_settle_2 : decode cL_settle 2 = .ok (.aload_n 0, 1) := by decide +kernel
theorem dL_settle_3 : decode cL_settle 3 = .ok (.invokevirtual 33, 3) := by decide +kernel
theorem dL_settle_6 : decode cL_settle 6 = .ok (.i2l, 1) := by decide +kernel
theorem dL_settle_7 : decode cL_settle 7 = .ok (.lastore, 1) := by decide +kernel
theorem dL_settle_8 : decode cL_settle 8 = .ok (.goto 6, 3) := by decide +kernel
theorem dL_settle_11 : decode cL_settle 11 = .ok (.astore_n 2, 1) := by decide +kernel
theorem dL_settle_12 : decode cL_settle 12 = .ok (.iconst 1, 1) := by decide +kernel
theorem dL_settle_13 : decode cL_settle 13 = .ok (.ireturn, 1) := by decide +kernel
theorem dL_settle_14 : decode cL_settle 14 = .ok (.iconst 0, 1) := by decide +kernel
theorem dL_settle_15 : decode cL_settle 15 = .ok (.ireturn, 1) := by decide +kernel
theorem dL_append_0 : decode cL_append 0 = .ok (.aload_n 2, 1) := by decide +kernel
theorem dL_append_1 : decode cL_append 1 = .ok (.iconst 0, 1) := by decide +kernel
theorem dL_append_2 : decode cL_append 2 = .ok (.aload_n 0, 1) := by decide +kernel
theorem dL_append_3 : decode cL_append 3 = .ok (.iload_n 1, 1) := by decide +kernel
theorem dL_append_4 : decode cL_append 4 = .ok (.invokevirtual 37, 3) := by decide +kernel
theorem dL_append_7 : decode cL_append 7 = .ok (.i2l, 1) := by decide +kernel
theorem dL_append_8 : decode cL_append 8 = .ok (.lastore, 1) := by decide +kernel
theorem dL_append_9 : decode cL_append 9 = .ok (.goto 9, 3) := by decide +kernel
theorem dL_append_12 : decode cL_append 12 = .ok (.astore_n 3, 1) := by decide +kernel
theorem dL_append_13 : decode cL_append 13 = .ok (.iconst 1, 1) := by decide +kernel
theorem dL_append_14 : decode cL_append 14 = .ok (.ireturn, 1) := by decide +kernel
theorem dL_append_15 : decode cL_append 15 = .ok (.astore_n 3, 1) := by decide +kernel
theorem dL_append_16 : decode cL_append 16 = .ok (.iconst 2, 1) := by decide +kernel
theorem dL_append_17 : decode cL_append 17 = .ok (.ireturn, 1) := by decide +kernel
theorem dL_append_18 : decode cL_append 18 = .ok (.iconst 0, 1) := by decide +kernel
theorem dL_append_19 : decode cL_append 19 = .ok (.ireturn, 1) := by decide +kernel
theorem dL_read_0 : decode cL_read 0 = .ok (.aload_n 1, 1) := by decide +kernel
theorem dL_read_1 : decode cL_read 1 = .ok (.iconst 0, 1) := by decide +kernel
theorem dL_read_2 : decode cL_read 2 = .ok (.aload_n 0, 1) := by decide +kernel
theorem dL_read_3 : decode cL_read 3 = .ok (.invokevirtual 40, 3) := by decide +kernel
theorem dL_read_6 : decode cL_read 6 = .ok (.i2l, 1) := by decide +kernel
theorem dL_read_7 : decode cL_read 7 = .ok (.lastore, 1) := by decide +kernel
theorem dL_read_8 : decode cL_read 8 = .ok (.goto 9, 3) := by decide +kernel
theorem dL_read_11 : decode cL_read 11 = .ok (.astore_n 2, 1) := by decide +kernel
theorem dL_read_12 : decode cL_read 12 = .ok (.iconst 1, 1) := by decide +kernel
theorem dL_read_13 : decode cL_read 13 = .ok (.ireturn, 1) := by decide +kernel
theorem dL_read_14 : decode cL_read 14 = .ok (.astore_n 2, 1) := by decide +kernel
theorem dL_read_15 : decode cL_read 15 = .ok (.iconst 2, 1) := by decide +kernel
theorem dL_read_16 : decode cL_read 16 = .ok (.ireturn, 1) := by decide +kernel
theorem dL_read_17 : decode cL_read 17 = .ok (.iconst 0, 1) := by decide +kernel
theorem dL_read_18 : decode cL_read 18 = .ok (.ireturn, 1) := by decide +kernel
theorem dL_undo_0 : decode cL_undo 0 = .ok (.aload_n 1, 1) := by decide +kernel
theorem dL_undo_1 : decode cL_undo 1 = .ok (.iconst 0, 1) := by decide +kernel
theorem dL_undo_2 : decode cL_undo 2 = .ok (.aload_n 0, 1) := by decide +kernel
theorem dL_undo_3 : decode cL_undo 3 = .ok (.invokevirtual 43, 3) := by decide +kernel
theorem dL_undo_6 : decode cL_undo 6 = .ok (.i2l, 1) := by decide +kernel
theorem dL_undo_7 : decode cL_undo 7 = .ok (.lastore, 1) := by decide +kernel
theorem dL_undo_8 : decode cL_undo 8 = .ok (.goto 6, 3) := by decide +kernel
theorem dL_undo_11 : decode cL_undo 11 = .ok (.astore_n 2, 1) := by decide +kernel
theorem dL_undo_12 : decode cL_undo 12 = .ok (.iconst 1, 1) := by decide +kernel
theorem dL_undo_13 : decode cL_undo 13 = .ok (.ireturn, 1) := by decide +kernel
theorem dL_undo_14 : decode cL_undo 14 = .ok (.iconst 0, 1) := by decide +kernel
theorem dL_undo_15 : decode cL_undo 15 = .ok (.ireturn, 1) := by decide +kernel
theorem dL_told_0 : decode cL_told 0 = .ok (.aload_n 2, 1) := by decide +kernel
theorem dL_told_1 : decode cL_told 1 = .ok (.iconst 0, 1) := by decide +kernel
theorem dL_told_2 : decode cL_told 2 = .ok (.aload_n 0, 1) := by decide +kernel
theorem dL_told_3 : decode cL_told 3 = .ok (.iload_n 1, 1) := by decide +kernel
theorem dL_told_4 : decode cL_told 4 = .ok (.invokevirtual 46, 3) := by decide +kernel
theorem dL_told_7 : decode cL_told 7 = .ok (.i2l, 1) := by decide +kernel
theorem dL_told_8 : decode cL_told 8 = .ok (.lastore, 1) := by decide +kernel
theorem dL_told_9 : decode cL_told 9 = .ok (.goto 6, 3) := by decide +kernel
theorem dL_told_12 : decode cL_told 12 = .ok (.astore_n 3, 1) := by decide +kernel
theorem dL_told_13 : decode cL_told 13 = .ok (.iconst 1, 1) := by decide +kernel
theorem dL_told_14 : decode cL_told 14 = .ok (.ireturn, 1) := by decide +kernel
theorem dL_told_15 : decode cL_told 15 = .ok (.iconst 0, 1) := by decide +kernel
theorem dL_told_16 : decode cL_told 16 = .ok (.ireturn, 1) := by decide +kernel
theorem dL_partOf_0 : decode cL_partOf 0 = .ok (.aload_n 3, 1) := by decide +kernel
theorem dL_partOf_1 : decode cL_partOf 1 = .ok (.iconst 0, 1) := by decide +kernel
theorem dL_partOf_2 : decode cL_partOf 2 = .ok (.aload_n 0, 1) := by decide +kernel
theorem dL_partOf_3 : decode cL_partOf 3 = .ok (.iload_n 1, 1) := by decide +kernel
theorem dL_partOf_4 : decode cL_partOf 4 = .ok (.iload_n 2, 1) := by decide +kernel
theorem dL_partOf_5 : decode cL_partOf 5 = .ok (.invokevirtual 49, 3) := by decide +kernel
theorem dL_partOf_8 : decode cL_partOf 8 = .ok (.i2l, 1) := by decide +kernel
theorem dL_partOf_9 : decode cL_partOf 9 = .ok (.lastore, 1) := by decide +kernel
theorem dL_partOf_10 : decode cL_partOf 10 = .ok (.goto 11, 3) := by decide +kernel
theorem dL_partOf_13 : decode cL_partOf 13 = .ok (.astore 4, 2) := by decide +kernel
theorem dL_partOf_15 : decode cL_partOf 15 = .ok (.iconst 1, 1) := by decide +kernel
theorem dL_partOf_16 : decode cL_partOf 16 = .ok (.ireturn, 1) := by decide +kernel
theorem dL_partOf_17 : decode cL_partOf 17 = .ok (.astore 4, 2) := by decide +kernel
theorem dL_partOf_19 : decode cL_partOf 19 = .ok (.iconst 2, 1) := by decide +kernel
theorem dL_partOf_20 : decode cL_partOf 20 = .ok (.ireturn, 1) := by decide +kernel
theorem dL_partOf_21 : decode cL_partOf 21 = .ok (.iconst 0, 1) := by decide +kernel
theorem dL_partOf_22 : decode cL_partOf 22 = .ok (.ireturn, 1) := by decide +kernel
theorem dL_found_0 : decode cL_found 0 = .ok (.aload_n 3, 1) := by decide +kernel
theorem dL_found_1 : decode cL_found 1 = .ok (.iconst 0, 1) := by decide +kernel
theorem dL_found_2 : decode cL_found 2 = .ok (.aload_n 0, 1) := by decide +kernel
theorem dL_found_3 : decode cL_found 3 = .ok (.iload_n 1, 1) := by decide +kernel
theorem dL_found_4 : decode cL_found 4 = .ok (.iload_n 2, 1) := by decide +kernel
theorem dL_found_5 : decode cL_found 5 = .ok (.invokevirtual 52, 3) := by decide +kernel
theorem dL_found_8 : decode cL_found 8 = .ok (.i2l, 1) := by decide +kernel
theorem dL_found_9 : decode cL_found 9 = .ok (.lastore, 1) := by decide +kernel
theorem dL_found_10 : decode cL_found 10 = .ok (.goto 7, 3) := by decide +kernel
theorem dL_found_13 : decode cL_found 13 = .ok (.astore 4, 2) := by decide +kernel
theorem dL_found_15 : decode cL_found 15 = .ok (.iconst 1, 1) := by decide +kernel
theorem dL_found_16 : decode cL_found 16 = .ok (.ireturn, 1) := by decide +kernel
theorem dL_found_17 : decode cL_found 17 = .ok (.iconst 0, 1) := by decide +kernel
theorem dL_found_18 : decode cL_found 18 = .ok (.ireturn, 1) := by decide +kernel
theorem dL_count_0 : decode cL_count 0 = .ok (.aload_n 2, 1) := by decide +kernel
theorem dL_count_1 : decode cL_count 1 = .ok (.iconst 0, 1) := by decide +kernel
theorem dL_count_2 : decode cL_count 2 = .ok (.aload_n 0, 1) := by decide +kernel
theorem dL_count_3 : decode cL_count 3 = .ok (.iload_n 1, 1) := by decide +kernel
theorem dL_count_4 : decode cL_count 4 = .ok (.invokevirtual 55, 3) := by decide +kernel
theorem dL_count_7 : decode cL_count 7 = .ok (.i2l, 1) := by decide +kernel
theorem dL_count_8 : decode cL_count 8 = .ok (.lastore, 1) := by decide +kernel
theorem dL_count_9 : decode cL_count 9 = .ok (.goto 6, 3) := by decide +kernel
theorem dL_count_12 : decode cL_count 12 = .ok (.astore_n 3, 1) := by decide +kernel
theorem dL_count_13 : decode cL_count 13 = .ok (.iconst 1, 1) := by decide +kernel
theorem dL_count_14 : decode cL_count 14 = .ok (.ireturn, 1) := by decide +kernel
theorem dL_count_15 : decode cL_count 15 = .ok (.iconst 0, 1) := by decide +kernel
theorem dL_count_16 : decode cL_count 16 = .ok (.ireturn, 1) := by decide +kernel
theorem dL_follows_0 : decode cL_follows 0 = .ok (.aload 4, 2) := by decide +kernel
theorem dL_follows_2 : decode cL_follows 2 = .ok (.iconst 0, 1) := by decide +kernel
theorem dL_follows_3 : decode cL_follows 3 = .ok (.aload_n 0, 1) := by decide +kernel
theorem dL_follows_4 : decode cL_follows 4 = .ok (.iload_n 1, 1) := by decide +kernel
theorem dL_follows_5 : decode cL_follows 5 = .ok (.iload_n 2, 1) := by decide +kernel
theorem dL_follows_6 : decode cL_follows 6 = .ok (.iload_n 3, 1) := by decide +kernel
theorem dL_follows_7 : decode cL_follows 7 = .ok (.invokevirtual 58, 3) := by decide +kernel
theorem dL_follows_10 : decode cL_follows 10 = .ok (.i2l, 1) := by decide +kernel
theorem dL_follows_11 : decode cL_follows 11 = .ok (.lastore, 1) := by decide +kernel
theorem dL_follows_12 : decode cL_follows 12 = .ok (.goto 7, 3) := by decide +kernel
theorem dL_follows_15 : decode cL_follows 15 = .ok (.astore 5, 2) := by decide +kernel
theorem dL_follows_17 : decode cL_follows 17 = .ok (.iconst 1, 1) := by decide +kernel
theorem dL_follows_18 : decode cL_follows 18 = .ok (.ireturn, 1) := by decide +kernel
theorem dL_follows_19 : decode cL_follows 19 = .ok (.iconst 0, 1) := by decide +kernel
theorem dL_follows_20 : decode cL_follows 20 = .ok (.ireturn, 1) := by decide +kernel
theorem dL_instances_0 : decode cL_instances 0 = .ok (.aload 4, 2) := by decide +kernel
theorem dL_instances_2 : decode cL_instances 2 = .ok (.iconst 0, 1) := by decide +kernel
theorem dL_instances_3 : decode cL_instances 3 = .ok (.aload_n 0, 1) := by decide +kernel
theorem dL_instances_4 : decode cL_instances 4 = .ok (.iload_n 1, 1) := by decide +kernel
theorem dL_instances_5 : decode cL_instances 5 = .ok (.iload_n 2, 1) := by decide +kernel
theorem dL_instances_6 : decode cL_instances 6 = .ok (.iload_n 3, 1) := by decide +kernel
theorem dL_instances_7 : decode cL_instances 7 = .ok (.invokevirtual 61, 3) := by decide +kernel
theorem dL_instances_10 : decode cL_instances 10 = .ok (.i2l, 1) := by decide +kernel
theorem dL_instances_11 : decode cL_instances 11 = .ok (.lastore, 1) := by decide +kernel
theorem dL_instances_12 : decode cL_instances 12 = .ok (.goto 7, 3) := by decide +kernel
theorem dL_instances_15 : decode cL_instances 15 = .ok (.astore 5, 2) := by decide +kernel
theorem dL_instances_17 : decode cL_instances 17 = .ok (.iconst 1, 1) := by decide +kernel
theorem dL_instances_18 : decode cL_instances 18 = .ok (.ireturn, 1) := by decide +kernel
theorem dL_instances_19 : decode cL_instances 19 = .ok (.iconst 0, 1) := by decide +kernel
theorem dL_instances_20 : decode cL_instances 20 = .ok (.ireturn, 1) := by decide +kernel
theorem dL_behind_0 : decode cL_behind 0 = .ok (.aload_n 2, 1) := by decide +kernel
theorem dL_behind_1 : decode cL_behind 1 = .ok (.iconst 0, 1) := by decide +kernel
theorem dL_behind_2 : decode cL_behind 2 = .ok (.aload_n 0, 1) := by decide +kernel
theorem dL_behind_3 : decode cL_behind 3 = .ok (.iload_n 1, 1) := by decide +kernel
theorem dL_behind_4 : decode cL_behind 4 = .ok (.invokevirtual 64, 3) := by decide +kernel
theorem dL_behind_7 : decode cL_behind 7 = .ok (.i2l, 1) := by decide +kernel
theorem dL_behind_8 : decode cL_behind 8 = .ok (.lastore, 1) := by decide +kernel
theorem dL_behind_9 : decode cL_behind 9 = .ok (.goto 6, 3) := by decide +kernel
theorem dL_behind_12 : decode cL_behind 12 = .ok (.astore_n 3, 1) := by decide +kernel
theorem dL_behind_13 : decode cL_behind 13 = .ok (.iconst 1, 1) := by decide +kernel
theorem dL_behind_14 : decode cL_behind 14 = .ok (.ireturn, 1) := by decide +kernel
theorem dL_behind_15 : decode cL_behind 15 = .ok (.iconst 0, 1) := by decide +kernel
theorem dL_behind_16 : decode cL_behind 16 = .ok (.ireturn, 1) := by decide +kernel
theorem dL_without_0 : decode cL_without 0 = .ok (.aload_n 3, 1) := by decide +kernel
theorem dL_without_1 : decode cL_without 1 = .ok (.iconst 0, 1) := by decide +kernel
theorem dL_without_2 : decode cL_without 2 = .ok (.aload_n 0, 1) := by decide +kernel
theorem dL_without_3 : decode cL_without 3 = .ok (.iload_n 1, 1) := by decide +kernel
theorem dL_without_4 : decode cL_without 4 = .ok (.iload_n 2, 1) := by decide +kernel
theorem dL_without_5 : decode cL_without 5 = .ok (.invokevirtual 67, 3) := by decide +kernel
theorem dL_without_8 : decode cL_without 8 = .ok (.i2l, 1) := by decide +kernel
theorem dL_without_9 : decode cL_without 9 = .ok (.lastore, 1) := by decide +kernel
theorem dL_without_10 : decode cL_without 10 = .ok (.goto 11, 3) := by decide +kernel
theorem dL_without_13 : decode cL_without 13 = .ok (.astore 4, 2) := by decide +kernel
theorem dL_without_15 : decode cL_without 15 = .ok (.iconst 1, 1) := by decide +kernel
theorem dL_without_16 : decode cL_without 16 = .ok (.ireturn, 1) := by decide +kernel
theorem dL_without_17 : decode cL_without 17 = .ok (.astore 4, 2) := by decide +kernel
theorem dL_without_19 : decode cL_without 19 = .ok (.iconst 2, 1) := by decide +kernel
theorem dL_without_20 : decode cL_without 20 = .ok (.ireturn, 1) := by decide +kernel
theorem dL_without_21 : decode cL_without 21 = .ok (.iconst 0, 1) := by decide +kernel
theorem dL_without_22 : decode cL_without 22 = .ok (.ireturn, 1) := by decide +kernel
theorem dL_spare_0 : decode cL_spare 0 = .ok (.aload_n 2, 1) := by decide +kernel
theorem dL_spare_1 : decode cL_spare 1 = .ok (.iconst 0, 1) := by decide +kernel
theorem dL_spare_2 : decode cL_spare 2 = .ok (.aload_n 0, 1) := by decide +kernel
theorem dL_spare_3 : decode cL_spare 3 = .ok (.iload_n 1, 1) := by decide +kernel
theorem dL_spare_4 : decode cL_spare 4 = .ok (.invokevirtual 70, 3) := by decide +kernel
theorem dL_spare_7 : decode cL_spare 7 = .ok (.i2l, 1) := by decide +kernel
theorem dL_spare_8 : decode cL_spare 8 = .ok (.lastore, 1) := by decide +kernel
theorem dL_spare_9 : decode cL_spare 9 = .ok (.goto 6, 3) := by decide +kernel
theorem dL_spare_12 : decode cL_spare 12 = .ok (.astore_n 3, 1) := by decide +kernel
theorem dL_spare_13 : decode cL_spare 13 = .ok (.iconst 1, 1) := by decide +kernel
theorem dL_spare_14 : decode cL_spare 14 = .ok (.ireturn, 1) := by decide +kernel
theorem dL_spare_15 : decode cL_spare 15 = .ok (.iconst 0, 1) := by decide +kernel
theorem dL_spare_16 : decode cL_spare 16 = .ok (.ireturn, 1) := by decide +kernel
theorem dL_richest_0 : decode cL_richest 0 = .ok (.aload_n 2, 1) := by decide +kernel
theorem dL_richest_1 : decode cL_richest 1 = .ok (.iconst 0, 1) := by decide +kernel
theorem dL_richest_2 : decode cL_richest 2 = .ok (.aload_n 0, 1) := by decide +kernel
theorem dL_richest_3 : decode cL_richest 3 = .ok (.iload_n 1, 1) := by decide +kernel
theorem dL_richest_4 : decode cL_richest 4 = .ok (.invokevirtual 73, 3) := by decide +kernel
theorem dL_richest_7 : decode cL_richest 7 = .ok (.i2l, 1) := by decide +kernel
theorem dL_richest_8 : decode cL_richest 8 = .ok (.lastore, 1) := by decide +kernel
theorem dL_richest_9 : decode cL_richest 9 = .ok (.goto 6, 3) := by decide +kernel
theorem dL_richest_12 : decode cL_richest 12 = .ok (.astore_n 3, 1) := by decide +kernel
theorem dL_richest_13 : decode cL_richest 13 = .ok (.iconst 1, 1) := by decide +kernel
theorem dL_richest_14 : decode cL_richest 14 = .ok (.ireturn, 1) := by decide +kernel
theorem dL_richest_15 : decode cL_richest 15 = .ok (.iconst 0, 1) := by decide +kernel
theorem dL_richest_16 : decode cL_richest 16 = .ok (.ireturn, 1) := by decide +kernel
