theorem dX7_found_5 : decode cX7_found 5 = .ok (.ifCond .lt 8, 3) := by decide +kernel
theorem dX7_found_8 : decode cX7_found 8 = .ok (.iload_n 2, 1) := by decide +kernel
theorem dX7_found_9 : decode cX7_found 9 = .ok (.iconst 3, 1) := by decide +kernel
theorem dX7_found_10 : decode cX7_found 10 = .ok (.if_icmp .le 13, 3) := by decide +kernel
theorem dX7_found_13 : decode cX7_found 13 = .ok (.new 53, 3) := by decide +kernel
theorem dX7_found_16 : decode cX7_found 16 = .ok (.dup, 1) := by decide +kernel
theorem dX7_found_17 : decode cX7_found 17 = .ok (.ldc 175, 2) := by decide +kernel
theorem dX7_found_19 : decode cX7_found 19 = .ok (.invokespecial 57, 3) := by decide +kernel
theorem dX7_found_22 : decode cX7_found 22 = .ok (.athrow, 1) := by decide +kernel
theorem dX7_found_23 : decode cX7_found 23 = .ok (.aload_n 0, 1) := by decide +kernel
theorem dX7_found_24 : decode cX7_found 24 = .ok (.getfield 37, 3) := by decide +kernel
theorem dX7_found_27 : decode cX7_found 27 = .ok (.getfield 121, 3) := by decide +kernel
theorem dX7_found_30 : decode cX7_found 30 = .ok (.iload_n 1, 1) := by decide +kernel
theorem dX7_found_31 : decode cX7_found 31 = .ok (.invokevirtual 165, 3) := by decide +kernel
theorem dX7_found_34 : decode cX7_found 34 = .ok (.istore_n 3, 1) := by decide +kernel
theorem dX7_found_35 : decode cX7_found 35 = .ok (.iload_n 3, 1) := by decide +kernel
theorem dX7_found_36 : decode cX7_found 36 = .ok (.iconst (-1), 1) := by decide +kernel
theorem dX7_found_37 : decode cX7_found 37 = .ok (.if_icmp .ne 5, 3) := by decide +kernel
theorem dX7_found_40 : decode cX7_found 40 = .ok (.iconst (-1), 1) := by decide +kernel
theorem dX7_found_41 : decode cX7_found 41 = .ok (.ireturn, 1) := by decide +kernel
theorem dX7_found_42 : decode cX7_found 42 = .ok (.iload_n 2, 1) := by decide +kernel
theorem dX7_found_43 : decode cX7_found 43 = .ok (.tableswitch 45 0 2 #[25, 27, 36], 25) := by decide +kernel
theorem dX7_found_68 : decode cX7_found 68 = .ok (.iload_n 3, 1) := by decide +kernel
theorem dX7_found_69 : decode cX7_found 69 = .ok (.ireturn, 1) := by decide +kernel
theorem dX7_found_70 : decode cX7_found 70 = .ok (.aload_n 0, 1) := by decide +kernel
theorem dX7_found_71 : decode cX7_found 71 = .ok (.getfield 37, 3) := by decide +kernel
theorem dX7_found_74 : decode cX7_found 74 = .ok (.iload_n 3, 1) := by decide +kernel
theorem dX7_found_75 : decode cX7_found 75 = .ok (.invokevirtual 177, 3) := by decide +kernel
theorem dX7_found_78 : decode cX7_found 78 = .ok (.ireturn, 1) := by decide +kernel
theorem dX7_found_79 : decode cX7_found 79 = .ok (.aload_n 0, 1) := by decide +kernel
theorem dX7_found_80 : decode cX7_found 80 = .ok (.getfield 37, 3) := by decide +kernel
theorem dX7_found_83 : decode cX7_found 83 = .ok (.iload_n 3, 1) := by decide +kernel
theorem dX7_found_84 : decode cX7_found 84 = .ok (.invokevirtual 180, 3) := by decide +kernel
theorem dX7_found_87 : decode cX7_found 87 = .ok (.ireturn, 1) := by decide +kernel
theorem dX7_found_88 : decode cX7_found 88 = .ok (.iload_n 3, 1) := by decide +kernel
theorem dX7_found_89 : decode cX7_found 89 = .ok (.invokestatic 183, 3) := by decide +kernel
theorem dX7_found_92 : decode cX7_found 92 = .ok (.invokestatic 186, 3) := by decide +kernel
theorem dX7_found_95 : decode cX7_found 95 = .ok (.ireturn, 1) := by decide +kernel
theorem dX7_count_0 : decode cX7_count 0 = .ok (.iload_n 1, 1) := by decide +kernel
theorem dX7_count_1 : decode cX7_count 1 = .ok (.ifCond .lt 9, 3) := by decide +kernel
theorem dX7_count_4 : decode cX7_count 4 = .ok (.iload_n 1, 1) := by decide +kernel
theorem dX7_count_5 : decode cX7_count 5 = .ok (.bipush 7, 2) := by decide +kernel
theorem dX7_count_7 : decode cX7_count 7 = .ok (.if_icmp .le 13, 3) := by decide +kernel
theorem dX7_count_10 : decode cX7_count 10 = .ok (.new 53, 3) := by decide +kernel
theorem dX7_count_13 : decode cX7_count 13 = .ok (.dup, 1) := by decide +kernel
theorem dX7_count_14 : decode cX7_count 14 = .ok (.ldc 191, 2) := by decide +kernel
theorem dX7_count_16 : decode cX7_count 16 = .ok (.invokespecial 57, 3) := by decide +kernel
theorem dX7_count_19 : decode cX7_count 19 = .ok (.athrow, 1) := by decide +kernel
theorem dX7_count_20 : decode cX7_count 20 = .ok (.iload_n 1, 1) := by decide +kernel
theorem dX7_count_21 : decode cX7_count 21 = .ok (.tableswitch 108 0 6 #[43, 54, 62, 73, 81, 89, 97], 43) := by decide +kernel
theorem dX7_count_64 : decode cX7_count 64 = .ok (.aload_n 0, 1) := by decide +kernel
theorem dX7_count_65 : decode cX7_count 65 = .ok (.getfield 10, 3) := by decide +kernel
theorem dX7_count_68 : decode cX7_count 68 = .ok (.getfield 64, 3) := by decide +kernel
theorem dX7_count_71 : decode cX7_count 71 = .ok (.invokevirtual 74, 3) := by decide +kernel
theorem dX7_count_74 : decode cX7_count 74 = .ok (.ireturn, 1) := by decide +kernel
theorem dX7_count_75 : decode cX7_count 75 = .ok (.aload_n 0, 1) := by decide +kernel
theorem dX7_count_76 : decode cX7_count 76 = .ok (.getfield 10, 3) := by decide +kernel
theorem dX7_count_79 : decode cX7_count 79 = .ok (.invokevirtual 102, 3) := by decide +kernel
theorem dX7_count_82 : decode cX7_count 82 = .ok (.ireturn, 1) := by decide +kernel
theorem dX7_count_83 : decode cX7_count 83 = .ok (.aload_n 0, 1) := by decide +kernel
theorem dX7_count_84 : decode cX7_count 84 = .ok (.getfield 37, 3) := by decide +kernel
theorem dX7_count_87 : decode cX7_count 87 = .ok (.getfield 121, 3) := by decide +kernel
theorem dX7_count_90 : decode cX7_count 90 = .ok (.invokevirtual 74, 3) := by decide +kernel
theorem dX7_count_93 : decode cX7_count 93 = .ok (.ireturn, 1) := by decide +kernel
theorem dX7_count_94 : decode cX7_count 94 = .ok (.aload_n 0, 1) := by decide +kernel
theorem dX7_count_95 : decode cX7_count 95 = .ok (.getfield 37, 3) := by decide +kernel
theorem dX7_count_98 : decode cX7_count 98 = .ok (.getfield 193, 3) := by decide +kernel
theorem dX7_count_101 : decode cX7_count 101 = .ok (.ireturn, 1) := by decide +kernel
theorem dX7_count_102 : decode cX7_count 102 = .ok (.aload_n 0, 1) := by decide +kernel
theorem dX7_count_103 : decode cX7_count 103 = .ok (.getfield 37, 3) := by decide +kernel
theorem dX7_count_106 : decode cX7_count 106 = .ok (.getfield 196, 3) := by decide +kernel
theorem dX7_count_109 : decode cX7_count 109 = .ok (.ireturn, 1) := by decide +kernel
theorem dX7_count_110 : decode cX7_count 110 = .ok (.aload_n 0, 1) := by decide +kernel
theorem dX7_count_111 : decode cX7_count 111 = .ok (.getfield 37, 3) := by decide +kernel
theorem dX7_count_114 : decode cX7_count 114 = .ok (.getfield 199, 3) := by decide +kernel
theorem dX7_count_117 : decode cX7_count 117 = .ok (.ireturn, 1) := by decide +kernel
theorem dX7_count_118 : decode cX7_count 118 = .ok (.aload_n 0, 1) := by decide +kernel
theorem dX7_count_119 : decode cX7_count 119 = .ok (.getfield 37, 3) := by decide +kernel
theorem dX7_count_122 : decode cX7_count 122 = .ok (.getfield 121, 3) := by decide +kernel
theorem dX7_count_125 : decode cX7_count 125 = .ok (.invokevirtual 202, 3) := by decide +kernel
theorem dX7_count_128 : decode cX7_count 128 = .ok (.ireturn, 1) := by decide +kernel
theorem dX7_count_129 : decode cX7_count 129 = .ok (.aload_n 0, 1) := by decide +kernel
theorem dX7_count_130 : decode cX7_count 130 = .ok (.getfield 157, 3) := by decide +kernel
theorem dX7_count_133 : decode cX7_count 133 = .ok (.ireturn, 1) := by decide +kernel
theorem dX7_follows_0 : decode cX7_follows 0 = .ok (.iload_n 1, 1) := by decide +kernel
theorem dX7_follows_1 : decode cX7_follows 1 = .ok (.iload_n 2, 1) := by decide +kernel
theorem dX7_follows_2 : decode cX7_follows 2 = .ok (.iload_n 3, 1) := by decide +kernel
theorem dX7_follows_3 : decode cX7_follows 3 = .ok (.invokestatic 47, 3) := by decide +kernel
theorem dX7_follows_6 : decode cX7_follows 6 = .ok (.ifCond .ne 13, 3) := by decide +kernel
theorem dX7_follows_9 : decode cX7_follows 9 = .ok (.new 53, 3) := by decide +kernel
theorem dX7_follows_12 : decode cX7_follows 12 = .ok (.dup, 1) := by decide +kernel
theorem dX7_follows_13 : decode cX7_follows 13 = .ok (.ldc 55, 2) := by decide +kernel
theorem dX7_follows_15 : decode cX7_follows 15 = .ok (.invokespecial 57, 3) := by decide +kernel
theorem dX7_follows_18 : decode cX7_follows 18 = .ok (.athrow, 1) := by decide +kernel
theorem dX7_follows_19 : decode cX7_follows 19 = .ok (.iload_n 1, 1) := by decide +kernel
theorem dX7_follows_20 : decode cX7_follows 20 = .ok (.iload_n 2, 1) := by decide +kernel
theorem dX7_follows_21 : decode cX7_follows 21 = .ok (.iload_n 3, 1) := by decide +kernel
theorem dX7_follows_22 : decode cX7_follows 22 = .ok (.invokestatic 60, 3) := by decide +kernel
theorem dX7_follows_25 : decode cX7_follows 25 = .ok (.istore 4, 2) := by decide +kernel
theorem dX7_follows_27 : decode cX7_follows 27 = .ok (.aload_n 0, 1) := by decide +kernel
theorem dX7_follows_28 : decode cX7_follows 28 = .ok (.getfield 37, 3) := by decide +kernel
theorem dX7_follows_31 : decode cX7_follows 31 = .ok (.getfield 121, 3) := by decide +kernel
theorem dX7_follows_34 : decode cX7_follows 34 = .ok (.iload 4, 2) := by decide +kernel
theorem dX7_follows_36 : decode cX7_follows 36 = .ok (.invokevirtual 68, 3) := by decide +kernel
theorem dX7_follows_39 : decode cX7_follows 39 = .ok (.ifCond .eq 5, 3) := by decide +kernel
theorem dX7_follows_42 : decode cX7_follows 42 = .ok (.iconst 2, 1) := by decide +kernel
theorem dX7_follows_43 : decode cX7_follows 43 = .ok (.ireturn, 1) := by decide +kernel
theorem dX7_follows_44 : decode cX7_follows 44 = .ok (.aload_n 0, 1) := by decide +kernel
theorem dX7_follows_45 : decode cX7_follows 45 = .ok (.getfield 37, 3) := by decide +kernel
theorem dX7_follows_48 : decode cX7_follows 48 = .ok (.getfield 205, 3) := by decide +kernel
theorem dX7_follows_51 : decode cX7_follows 51 = .ok (.iload 4, 2) := by decide +kernel
theorem dX7_follows_53 : decode cX7_follows 53 = .ok (.invokevirtual 68, 3) := by decide +kernel
theorem dX7_follows_56 : decode cX7_follows 56 = .ok (.ifCond .eq 7, 3) := by decide +kernel
theorem dX7_follows_59 : decode cX7_follows 59 = .ok (.iconst 1, 1) := by decide +kernel
theorem dX7_follows_60 : decode cX7_follows 60 = .ok (.goto 4, 3) := by decide +kernel
theorem dX7_follows_63 : decode cX7_follows 63 = .ok (.iconst 0, 1) := by decide +kernel
theorem dX7_follows_64 : decode cX7_follows 64 = .ok (.ireturn, 1) := by decide +kernel
theorem dX7_instances_0 : decode cX7_instances 0 = .ok (.iload_n 1, 1) := by decide +kernel
theorem dX7_instances_1 : decode cX7_instances 1 = .ok (.iload_n 2, 1) := by decide +kernel
theorem dX7_instances_2 : decode cX7_instances 2 = .ok (.iload_n 3, 1) := by decide +kernel
theorem dX7_instances_3 : decode cX7_instances 3 = .ok (.invokestatic 47, 3) := by decide +kernel
theorem dX7_instances_6 : decode cX7_instances 6 = .ok (.ifCond .ne 13, 3) := by decide +kernel
theorem dX7_instances_9 : decode cX7_instances 9 = .ok (.new 53, 3) := by decide +kernel
theorem dX7_instances_12 : decode cX7_instances 12 = .ok (.dup, 1) := by decide +kernel
theorem dX7_instances_13 : decode cX7_instances 13 = .ok (.ldc 55, 2) := by decide +kernel
theorem dX7_instances_15 : decode cX7_instances 15 = .ok (.invokespecial 57, 3) := by decide +kernel
theorem dX7_instances_18 : decode cX7_instances 18 = .ok (.athrow, 1) := by decide +kernel
theorem dX7_instances_19 : decode cX7_instances 19 = .ok (.iload_n 1, 1) := by decide +kernel
theorem dX7_instances_20 : decode cX7_instances 20 = .ok (.iload_n 2, 1) := by decide +kernel
theorem dX7_instances_21 : decode cX7_instances 21 = .ok (.iload_n 3, 1) := by decide +kernel
theorem dX7_instances_22 : decode cX7_instances 22 = .ok (.invokestatic 60, 3) := by decide +kernel
theorem dX7_instances_25 : decode cX7_instances 25 = .ok (.istore 4, 2) := by decide +kernel
theorem dX7_instances_27 : decode cX7_instances 27 = .ok (.iload 4, 2) := by decide +kernel
theorem dX7_instances_29 : decode cX7_instances 29 = .ok (.invokestatic 183, 3) := by decide +kernel
theorem dX7_instances_32 : decode cX7_instances 32 = .ok (.aload_n 0, 1) := by decide +kernel
theorem dX7_instances_33 : decode cX7_instances 33 = .ok (.getfield 37, 3) := by decide +kernel
theorem dX7_instances_36 : decode cX7_instances 36 = .ok (.getfield 121, 3) := by decide +kernel
theorem dX7_instances_39 : decode cX7_instances 39 = .ok (.iload_n 1, 1) := by decide +kernel
theorem dX7_instances_40 : decode cX7_instances 40 = .ok (.invokevirtual 208, 3) := by decide +kernel
theorem dX7_instances_43 : decode cX7_instances 43 = .ok (.iand, 1) := by decide +kernel
theorem dX7_instances_44 : decode cX7_instances 44 = .ok (.ireturn, 1) := by decide +kernel
theorem dX7_behind_0 : decode cX7_behind 0 = .ok (.iload_n 1, 1) := by decide +kernel
theorem dX7_behind_1 : decode cX7_behind 1 = .ok (.ifCond .ge 13, 3) := by decide +kernel
theorem dX7_behind_4 : decode cX7_behind 4 = .ok (.new 53, 3) := by decide +kernel
theorem dX7_behind_7 : decode cX7_behind 7 = .ok (.dup, 1) := by decide +kernel
theorem dX7_behind_8 : decode cX7_behind 8 = .ok (.ldc 211, 2) := by decide +kernel
theorem dX7_behind_10 : decode cX7_behind 10 = .ok (.invokespecial 57, 3) := by decide +kernel
theorem dX7_behind_13 : decode cX7_behind 13 = .ok (.athrow, 1) := by decide +kernel
theorem dX7_behind_14 : decode cX7_behind 14 = .ok (.aload_n 0, 1) := by decide +kernel
theorem dX7_behind_15 : decode cX7_behind 15 = .ok (.getfield 37, 3) := by decide +kernel
theorem dX7_behind_18 : decode cX7_behind 18 = .ok (.iload_n 1, 1) := by decide +kernel
theorem dX7_behind_19 : decode cX7_behind 19 = .ok (.invokevirtual 213, 3) := by decide +kernel
theorem dX7_behind_22 : decode cX7_behind 22 = .ok (.ireturn, 1) := by decide +kernel
theorem dX7_without_0 : decode cX7_without 0 = .ok (.aload_n 0, 1) := by decide +kernel
theorem dX7_without_1 : decode cX7_without 1 = .ok (.getfield 10, 3) := by decide +kernel
theorem dX7_without_4 : decode cX7_without 4 = .ok (.iload_n 1, 1) := by decide +kernel
theorem dX7_without_5 : decode cX7_without 5 = .ok (.invokevirtual 110, 3) := by decide +kernel
theorem dX7_without_8 : decode cX7_without 8 = .ok (.ifCond .ne 13, 3) := by decide +kernel
theorem dX7_without_11 : decode cX7_without 11 = .ok (.new 113, 3) := by decide +kernel
theorem dX7_without_14 : decode cX7_without 14 = .ok (.dup, 1) := by decide +kernel
theorem dX7_without_15 : decode cX7_without 15 = .ok (.ldc 115, 2) := by decide +kernel
theorem dX7_without_17 : decode cX7_without 17 = .ok (.invokespecial 117, 3) := by decide +kernel
theorem dX7_without_20 : decode cX7_without 20 = .ok (.athrow, 1) := by decide +kernel
theorem dX7_without_21 : decode cX7_without 21 = .ok (.iload_n 2, 1) := by decide +kernel
theorem dX7_without_22 : decode cX7_without 22 = .ok (.ifCond .lt 8, 3) := by decide +kernel
theorem dX7_without_25 : decode cX7_without 25 = .ok (.iload_n 2, 1) := by decide +kernel
theorem dX7_without_26 : decode cX7_without 26 = .ok (.iconst 2, 1) := by decide +kernel
theorem dX7_without_27 : decode cX7_without 27 = .ok (.if_icmp .le 13, 3) := by decide +kernel
theorem dX7_without_30 : decode cX7_without 30 = .ok (.new 53, 3) := by decide +kernel
theorem dX7_without_33 : decode cX7_without 33 = .ok (.dup, 1) := by decide +kernel
theorem dX7_without_34 : decode cX7_without 34 = .ok (.ldc 216, 2) := by decide +kernel
theorem dX7_without_36 : decode cX7_without 36 = .ok (.invokespecial 57, 3) := by decide +kernel
theorem dX7_without_39 : decode cX7_without 39 = .ok (.athrow, 1) := by decide +kernel
theorem dX7_without_40 : decode cX7_without 40 = .ok (.aload_n 0, 1) := by decide +kernel
theorem dX7_without_41 : decode cX7_without 41 = .ok (.getfield 41, 3) := by decide +kernel
theorem dX7_without_44 : decode cX7_without 44 = .ok (.aload_n 0, 1) := by decide +kernel
theorem dX7_without_45 : decode cX7_without 45 = .ok (.getfield 10, 3) := by decide +kernel
theorem dX7_without_48 : decode cX7_without 48 = .ok (.invokevirtual 149, 3) := by decide +kernel
theorem dX7_without_51 : decode cX7_without 51 = .ok (.aload_n 0, 1) := by decide +kernel
theorem dX7_without_52 : decode cX7_without 52 = .ok (.getfield 41, 3) := by decide +kernel
theorem dX7_without_55 : decode cX7_without 55 = .ok (.iload_n 1, 1) := by decide +kernel
theorem dX7_without_56 : decode cX7_without 56 = .ok (.invokevirtual 118, 3) := by decide +kernel
theorem dX7_without_59 : decode cX7_without 59 = .ok (.aload_n 0, 1) := by decide +kernel
theorem dX7_without_60 : decode cX7_without 60 = .ok (.getfield 44, 3) := by decide +kernel
theorem dX7_without_63 : decode cX7_without 63 = .ok (.aload_n 0, 1) := by decide +kernel
theorem dX7_without_64 : decode cX7_without 64 = .ok (.getfield 41, 3) := by decide +kernel
theorem dX7_without_67 : decode cX7_without 67 = .ok (.invokevirtual 90, 3) := by decide +kernel
theorem dX7_without_70 : decode cX7_without 70 = .ok (.iload_n 2, 1) := by decide +kernel
theorem dX7_without_71 : decode cX7_without 71 = .ok (.lookupswitch 44 #[(0, 25), (1, 36)], 25) := by decide +kernel
theorem dX7_without_96 : decode cX7_without 96 = .ok (.aload_n 0, 1) := by decide +kernel
theorem dX7_without_97 : decode cX7_without 97 = .ok (.getfield 44, 3) := by decide +kernel
theorem dX7_without_100 : decode cX7_without 100 = .ok (.getfield 121, 3) := by decide +kernel
theorem dX7_without_103 : decode cX7_without 103 = .ok (.invokevirtual 74, 3) := by decide +kernel
theorem dX7_without_106 : decode cX7_without 106 = .ok (.ireturn, 1) := by decide +kernel
theorem dX7_without_107 : decode cX7_without 107 = .ok (.aload_n 0, 1) := by decide +kernel
theorem dX7_without_108 : decode cX7_without 108 = .ok (.getfield 44, 3) := by decide +kernel
theorem dX7_without_111 : decode cX7_without 111 = .ok (.getfield 193, 3) := by decide +kernel
theorem dX7_without_114 : decode cX7_without 114 = .ok (.ireturn, 1) := by decide +kernel
theorem dX7_without_115 : decode cX7_without 115 = .ok (.aload_n 0, 1) := by decide +kernel
theorem dX7_without_116 : decode cX7_without 116 = .ok (.getfield 37, 3) := by decide +kernel
theorem dX7_without_119 : decode cX7_without 119 = .ok (.getfield 121, 3) := by decide +kernel
theorem dX7_without_122 : decode cX7_without 122 = .ok (.invokevirtual 202, 3) := by decide +kernel
theorem dX7_without_125 : decode cX7_without 125 = .ok (.aload_n 0, 1) := by decide +kernel
theorem dX7_without_126 : decode cX7_without 126 = .ok (.getfield 44, 3) := by decide +kernel
theorem dX7_without_129 : decode cX7_without 129 = .ok (.getfield 121, 3) := by decide +kernel
theorem dX7_without_132 : decode cX7_without 132 = .ok (.invokevirtual 202, 3) := by decide +kernel
theorem dX7_without_135 : decode cX7_without 135 = .ok (.isub, 1) := by decide +kernel
theorem dX7_without_136 : decode cX7_without 136 = .ok (.ireturn, 1) := by decide +kernel
theorem dX7_spare_0 : decode cX7_spare 0 = .ok (.iload_n 1, 1) := by decide +kernel
theorem dX7_spare_1 : decode cX7_spare 1 = .ok (.ifCond .ge 13, 3) := by decide +kernel
theorem dX7_spare_4 : decode cX7_spare 4 = .ok (.new 53, 3) := by decide +kernel
theorem dX7_spare_7 : decode cX7_spare 7 = .ok (.dup, 1) := by decide +kernel
theorem dX7_spare_8 : decode cX7_spare 8 = .ok (.ldc 163, 2) := by decide +kernel
theorem dX7_spare_10 : decode cX7_spare 10 = .ok (.invokespecial 57, 3) := by decide +kernel
theorem dX7_spare_13 : decode cX7_spare 13 = .ok (.athrow, 1) := by decide +kernel
theorem dX7_spare_14 : decode cX7_spare 14 = .ok (.aload_n 0, 1) := by decide +kernel
theorem dX7_spare_15 : decode cX7_spare 15 = .ok (.getfield 10, 3) := by decide +kernel
theorem dX7_spare_18 : decode cX7_spare 18 = .ok (.getfield 64, 3) := by decide +kernel
theorem dX7_spare_21 : decode cX7_spare 21 = .ok (.iload_n 1, 1) := by decide +kernel
theorem dX7_spare_22 : decode cX7_spare 22 = .ok (.invokevirtual 165, 3) := by decide +kernel
theorem dX7_spare_25 : decode cX7_spare 25 = .ok (.istore_n 2, 1) := by decide +kernel
theorem dX7_spare_26 : decode cX7_spare 26 = .ok (.iload_n 2, 1) := by decide +kernel
theorem dX7_spare_27 : decode cX7_spare 27 = .ok (.iconst (-1), 1) := by decide +kernel
theorem dX7_spare_28 : decode cX7_spare 28 = .ok (.if_icmp .ne 5, 3) := by decide +kernel
theorem dX7_spare_31 : decode cX7_spare 31 = .ok (.iconst (-1), 1) := by decide +kernel
theorem dX7_spare_32 : decode cX7_spare 32 = .ok (.ireturn, 1) := by decide +kernel
theorem dX7_spare_33 : decode cX7_spare 33 = .ok (.aload_n 0, 1) := by decide +kernel
theorem dX7_spare_34 : decode cX7_spare 34 = .ok (.getfield 41, 3) := by decide +kernel
theorem dX7_spare_37 : decode cX7_spare 37 = .ok (.aload_n 0, 1) := by decide +kernel
theorem dX7_spare_38 : decode cX7_spare 38 = .ok (.getfield 10, 3) := by decide +kernel
theorem dX7_spare_41 : decode cX7_spare 41 = .ok (.invokevirtual 149, 3) := by decide +kernel
theorem dX7_spare_44 : decode cX7_spare 44 = .ok (.aload_n 0, 1) := by decide +kernel
theorem dX7_spare_45 : decode cX7_spare 45 = .ok (.getfield 41, 3) := by decide +kernel
theorem dX7_spare_48 : decode cX7_spare 48 = .ok (.getfield 64, 3) := by decide +kernel
theorem dX7_spare_51 : decode cX7_spare 51 = .ok (.iload_n 2, 1) := by decide +kernel
theorem dX7_spare_52 : decode cX7_spare 52 = .ok (.invokevirtual 94, 3) := by decide +kernel
theorem dX7_spare_55 : decode cX7_spare 55 = .ok (.aload_n 0, 1) := by decide +kernel
theorem dX7_spare_56 : decode cX7_spare 56 = .ok (.getfield 44, 3) := by decide +kernel
theorem dX7_spare_59 : decode cX7_spare 59 = .ok (.aload_n 0, 1) := by decide +kernel
theorem dX7_spare_60 : decode cX7_spare 60 = .ok (.getfield 41, 3) := by decide +kernel
theorem dX7_spare_63 : decode cX7_spare 63 = .ok (.invokevirtual 90, 3) := by decide +kernel
theorem dX7_spare_66 : decode cX7_spare 66 = .ok (.aload_n 0, 1) := by decide +kernel
theorem dX7_spare_67 : decode cX7_spare 67 = .ok (.getfield 44, 3) := by decide +kernel
theorem dX7_spare_70 : decode cX7_spare 70 = .ok (.getfield 205, 3) := by decide +kernel
theorem dX7_spare_73 : decode cX7_spare 73 = .ok (.iload_n 2, 1) := by decide +kernel
theorem dX7_spare_74 : decode cX7_spare 74 = .ok (.invokevirtual 68, 3) := by decide +kernel
theorem dX7_spare_77 : decode cX7_spare 77 = .ok (.ifCond .eq 7, 3) := by decide +kernel
theorem dX7_spare_80 : decode cX7_spare 80 = .ok (.iconst 1, 1) := by decide +kernel
theorem dX7_spare_81 : decode cX7_spare 81 = .ok (.goto 4, 3) := by decide +kernel
theorem dX7_spare_84 : decode cX7_spare 84 = .ok (.iconst 0, 1) := by decide +kernel
theorem dX7_spare_85 : decode cX7_spare 85 = .ok (.ireturn, 1) := by decide +kernel
theorem dX7_richest_0 : decode cX7_richest 0 = .ok (.iload_n 1, 1) := by decide +kernel
theorem dX7_richest_1 : decode cX7_richest 1 = .ok (.ifCond .lt 8, 3) := by decide +kernel
theorem dX7_richest_4 : decode cX7_richest 4 = .ok (.iload_n 1, 1) := by decide +kernel
theorem dX7_richest_5 : decode cX7_richest 5 = .ok (.iconst 4, 1) := by decide +kernel
theorem dX7_richest_6 : decode cX7_richest 6 = .ok (.if_icmp .lt 13, 3) := by decide +kernel
theorem dX7_richest_9 : decode cX7_richest 9 = .ok (.new 53, 3) := by decide +kernel
theorem dX7_richest_12 : decode cX7_richest 12 = .ok (.dup, 1) := by decide +kernel
theorem dX7_richest_13 : decode cX7_richest 13 = .ok (.ldc 218, 2) := by decide +kernel
theorem dX7_richest_15 : decode cX7_richest 15 = .ok (.invokespecial 57, 3) := by decide +kernel
theorem dX7_richest_18 : decode cX7_richest 18 = .ok (.athrow, 1) := by decide +kernel
theorem dX7_richest_19 : decode cX7_richest 19 = .ok (.iconst 0, 1) := by decide +kernel
theorem dX7_richest_20 : decode cX7_richest 20 = .ok (.istore_n 2, 1) := by decide +kernel
theorem dX7_richest_21 : decode cX7_richest 21 = .ok (.iconst (-1), 1) := by decide +kernel
theorem dX7_richest_22 : decode cX7_richest 22 = .ok (.istore_n 3, 1) := by decide +kernel
theorem dX7_richest_23 : decode cX7_richest 23 = .ok (.iconst 0, 1) := by decide +kernel
theorem dX7_richest_24 : decode cX7_richest 24 = .ok (.istore 4, 2) := by decide +kernel
theorem dX7_richest_26 : decode cX7_richest 26 = .ok (.iload 4, 2) := by decide +kernel
theorem dX7_richest_28 : decode cX7_richest 28 = .ok (.iconst 4, 1) := by decide +kernel
theorem dX7_richest_29 : decode cX7_richest 29 = .ok (.if_icmp .ge 94, 3) := by decide +kernel
theorem dX7_richest_32 : decode cX7_richest 32 = .ok (.iconst 0, 1) := by decide +kernel
theorem dX7_richest_33 : decode cX7_richest 33 = .ok (.istore 5, 2) := by decide +kernel
theorem dX7_richest_35 : decode cX7_richest 35 = .ok (.iload 5, 2) := by decide +kernel
theorem dX7_richest_37 : decode cX7_richest 37 = .ok (.iconst 4, 1) := by decide +kernel
theorem dX7_richest_38 : decode cX7_richest 38 = .ok (.if_icmp .ge 79, 3) := by decide +kernel
theorem dX7_richest_41 : decode cX7_richest 41 = .ok (.aload_n 0, 1) := by decide +kernel
theorem dX7_richest_42 : decode cX7_richest 42 = .ok (.getfield 41, 3) := by decide +kernel
theorem dX7_richest_45 : decode cX7_richest 45 = .ok (.aload_n 0, 1) := by decide +kernel
theorem dX7_richest_46 : decode cX7_richest 46 = .ok (.getfield 10, 3) := by decide +kernel
theorem dX7_richest_49 : decode cX7_richest 49 = .ok (.invokevirtual 149, 3) := by decide +kernel
theorem dX7_richest_52 : decode cX7_richest 52 = .ok (.aload_n 0, 1) := by decide +kernel
theorem dX7_richest_53 : decode cX7_richest 53 = .ok (.getfield 41, 3) := by decide +kernel
theorem dX7_richest_56 : decode cX7_richest 56 = .ok (.getfield 64, 3) := by decide +kernel
theorem dX7_richest_59 : decode cX7_richest 59 = .ok (.iload_n 1, 1) := by decide +kernel
theorem dX7_richest_60 : decode cX7_richest 60 = .ok (.iload 4, 2) := by decide +kernel
theorem dX7_richest_62 : decode cX7_richest 62 = .ok (.iload 5, 2) := by decide +kernel
theorem dX7_richest_64 : decode cX7_richest 64 = .ok (.invokestatic 60, 3) := by decide +kernel
theorem dX7_richest_67 : decode cX7_richest 67 = .ok (.invokevirtual 86, 3) := by decide +kernel
theorem dX7_richest_70 : decode cX7_richest 70 = .ok (.aload_n 0, 1) := by decide +kernel
theorem dX7_richest_71 : decode cX7_richest 71 = .ok (.getfield 44, 3) := by decide +kernel
theorem dX7_richest_74 : decode cX7_richest 74 = .ok (.aload_n 0, 1) := by decide +kernel
theorem dX7_richest_75 : decode cX7_richest 75 = .ok (.getfield 41, 3) := by decide +kernel
theorem dX7_richest_78 : decode cX7_richest 78 = .ok (.invokevirtual 90, 3) := by decide +kernel
theorem dX7_richest_81 : decode cX7_richest 81 = .ok (.aload_n 0, 1) := by decide +kernel
theorem dX7_richest_82 : decode cX7_richest 82 = .ok (.getfield 44, 3) := by decide +kernel
theorem dX7_richest_85 : decode cX7_richest 85 = .ok (.getfield 121, 3) := by decide +kernel
theorem dX7_richest_88 : decode cX7_richest 88 = .ok (.invokevirtual 202, 3) := by decide +kernel
theorem dX7_richest_91 : decode cX7_richest 91 = .ok (.istore 6, 2) := by decide +kernel
theorem dX7_richest_93 : decode cX7_richest 93 = .ok (.iload 6, 2) := by decide +kernel
theorem dX7_richest_95 : decode cX7_richest 95 = .ok (.iload_n 3, 1) := by decide +kernel
theorem dX7_richest_96 : decode cX7_richest 96 = .ok (.if_icmp .le 15, 3) := by decide +kernel
theorem dX7_richest_99 : decode cX7_richest 99 = .ok (.iload 6, 2) := by decide +kernel
theorem dX7_richest_101 : decode cX7_richest 101 = .ok (.istore_n 3, 1) := by decide +kernel
theorem dX7_richest_102 : decode cX7_richest 102 = .ok (.iconst 0, 1) := by decide +kernel
theorem dX7_richest_103 : decode cX7_richest 103 = .ok (.iload 4, 2) := by decide +kernel
theorem dX7_richest_105 : decode cX7_richest 105 = .ok (.iload 5, 2) := by decide +kernel
theorem dX7_richest_107 : decode cX7_richest 107 = .ok (.invokestatic 60, 3) := by decide +kernel
theorem dX7_richest_110 : decode cX7_richest 110 = .ok (.istore_n 2, 1) := by decide +kernel
theorem dX7_richest_111 : decode cX7_richest 111 = .ok (.iinc 5 1, 3) := by decide +kernel
theorem dX7_richest_114 : decode cX7_richest 114 = .ok (.goto (-79), 3) := by decide +kernel
theorem dX7_richest_117 : decode cX7_richest 117 = .ok (.iinc 4 1, 3) := by decide +kernel
theorem dX7_richest_120 : decode cX7_richest 120 = .ok (.goto (-94), 3) := by decide +kernel
theorem dX7_richest_123 : decode cX7_richest 123 = .ok (.iload_n 2, 1) := by decide +kernel
theorem dX7_richest_124 : decode cX7_richest 124 = .ok (.ireturn, 1) := by decide +kernel
theorem dX7_byRules_0 : decode cX7_byRules 0 = .ok (.aload_n 0, 1) := by decide +kernel
theorem dX7_byRules_1 : decode cX7_byRules 1 = .ok (.getfield 37, 3) := by decide +kernel
theorem dX7_byRules_4 : decode cX7_byRules 4 = .ok (.getfield 121, 3) := by decide +kernel
theorem dX7_byRules_7 : decode cX7_byRules 7 = .ok (.invokevirtual 202, 3) := by decide +kernel
theorem dX7_byRules_10 : decode cX7_byRules 10 = .ok (.istore_n 1, 1) := by decide +kernel
theorem dX7_byRules_11 : decode cX7_byRules 11 = .ok (.iload_n 1, 1) := by decide +kernel
theorem dX7_byRules_12 : decode cX7_byRules 12 = .ok (.ifCond .ne 5, 3) := by decide +kernel
theorem dX7_byRules_15 : decode cX7_byRules 15 = .ok (.dconst 0, 1) := by decide +kernel
theorem dX7_byRules_16 : decode cX7_byRules 16 = .ok (.dreturn, 1) := by decide +kernel
theorem dX7_byRules_17 : decode cX7_byRules 17 = .ok (.iload_n 1, 1) := by decide +kernel
theorem dX7_byRules_18 : decode cX7_byRules 18 = .ok (.aload_n 0, 1) := by decide +kernel
theorem dX7_byRules_19 : decode cX7_byRules 19 = .ok (.getfield 10, 3) := by decide +kernel
theorem dX7_byRules_22 : decode cX7_byRules 22 = .ok (.getfield 64, 3) := by decide +kernel
theorem dX7_byRules_25 : decode cX7_byRules 25 = .ok (.invokevirtual 202, 3) := by decide +kernel
theorem dX7_byRules_28 : decode cX7_byRules 28 = .ok (.isub, 1) := by decide +kernel
theorem dX7_byRules_29 : decode cX7_byRules 29 = .ok (.i2d, 1) := by decide +kernel
theorem dX7_byRules_30 : decode cX7_byRules 30 = .ok (.iload_n 1, 1) := by decide +kernel
theorem dX7_byRules_31 : decode cX7_byRules 31 = .ok (.i2d, 1) := by decide +kernel
theorem dX7_byRules_32 : decode cX7_byRules 32 = .ok (.ddiv, 1) := by decide +kernel
theorem dX7_byRules_33 : decode cX7_byRules 33 = .ok (.dreturn, 1) := by decide +kernel
theorem dX7_digest_0 : decode cX7_digest 0 = .ok (.ldc2_w 220, 3) := by decide +kernel
theorem dX7_digest_3 : decode cX7_digest 3 = .ok (.lstore_n 1, 1) := by decide +kernel
theorem dX7_digest_4 : decode cX7_digest 4 = .ok (.iconst 0, 1) := by decide +kernel
theorem dX7_digest_5 : decode cX7_digest 5 = .ok (.istore_n 3, 1) := by decide +kernel
theorem dX7_digest_6 : decode cX7_digest 6 = .ok (.iload_n 3, 1) := by decide +kernel
theorem dX7_digest_7 : decode cX7_digest 7 = .ok (.bipush 7, 2) := by decide +kernel
theorem dX7_digest_9 : decode cX7_digest 9 = .ok (.if_icmp .gt 22, 3) := by decide +kernel
theorem dX7_digest_12 : decode cX7_digest 12 = .ok (.ldc2_w 222, 3) := by decide +kernel
theorem dX7_digest_15 : decode cX7_digest 15 = .ok (.lload_n 1, 1) := by decide +kernel
theorem dX7_digest_16 : decode cX7_digest 16 = .ok (.lmul, 1) := by decide +kernel
theorem dX7_digest_17 : decode cX7_digest 17 = .ok (.aload_n 0, 1) := by decide +kernel
theorem dX7_digest_18 : decode cX7_digest 18 = .ok (.iload_n 3, 1) := by decide +kernel
theorem dX7_digest_19 : decode cX7_digest 19 = .ok (.invokevirtual 224, 3) := by decide +kernel
theorem dX7_digest_22 : decode cX7_digest 22 = .ok (.i2l, 1) := by decide +kernel
theorem dX7_digest_23 : decode cX7_digest 23 = .ok (.ladd, 1) := by decide +kernel
theorem dX7_digest_24 : decode cX7_digest 24 = .ok (.lstore_n 1, 1) := by decide +kernel
theorem dX7_digest_25 : decode cX7_digest 25 = .ok (.iinc 3 1, 3) := by decide +kernel
theorem dX7_digest_28 : decode cX7_digest 28 = .ok (.goto (-22), 3) := by decide +kernel
theorem dX7_digest_31 : decode cX7_digest 31 = .ok (.iconst 0, 1) := by decide +kernel
theorem dX7_digest_32 : decode cX7_digest 32 = .ok (.istore_n 3, 1) := by decide +kernel
theorem dX7_digest_33 : decode cX7_digest 33 = .ok (.iload_n 3, 1) := by decide +kernel
theorem dX7_digest_34 : decode cX7_digest 34 = .ok (.aload_n 0, 1) := by decide +kernel
theorem dX7_digest_35 : decode cX7_digest 35 = .ok (.getfield 10, 3) := by decide +kernel
theorem dX7_digest_38 : decode cX7_digest 38 = .ok (.getfield 64, 3) := by decide +kernel
theorem dX7_digest_41 : decode cX7_digest 41 = .ok (.invokevirtual 74, 3) := by decide +kernel
theorem dX7_digest_44 : decode cX7_digest 44 = .ok (.if_icmp .ge 35, 3) := by decide +kernel
theorem dX7_digest_47 : decode cX7_digest 47 = .ok (.ldc2_w 222, 3) := by decide +kernel
theorem dX7_digest_50 : decode cX7_digest 50 = .ok (.lload_n 1, 1) := by decide +kernel
theorem dX7_digest_51 : decode cX7_digest 51 = .ok (.lmul, 1) := by decide +kernel
theorem dX7_digest_52 : decode cX7_digest 52 = .ok (.aload_n 0, 1) := by decide +kernel
theorem dX7_digest_53 : decode cX7_digest 53 = .ok (.iload_n 3, 1) := by decide +kernel
theorem dX7_digest_54 : decode cX7_digest 54 = .ok (.invokevirtual 227, 3) := by decide +kernel
theorem dX7_digest_57 : decode cX7_digest 57 = .ok (.i2l, 1) := by decide +kernel
theorem dX7_digest_58 : decode cX7_digest 58 = .ok (.ladd, 1) := by decide +kernel
theorem dX7_digest_59 : decode cX7_digest 59 = .ok (.lstore_n 1, 1) := by decide +kernel
theorem dX7_digest_60 : decode cX7_digest 60 = .ok (.ldc2_w 222, 3) := by decide +kernel
theorem dX7_digest_63 : decode cX7_digest 63 = .ok (.lload_n 1, 1) := by decide +kernel
theorem dX7_digest_64 : decode cX7_digest 64 = .ok (.lmul, 1) := by decide +kernel
theorem dX7_digest_65 : decode cX7_digest 65 = .ok (.aload_n 0, 1) := by decide +kernel
theorem dX7_digest_66 : decode cX7_digest 66 = .ok (.iload_n 3, 1) := by decide +kernel
theorem dX7_digest_67 : decode cX7_digest 67 = .ok (.invokevirtual 229, 3) := by decide +kernel
theorem dX7_digest_70 : decode cX7_digest 70 = .ok (.i2l, 1) := by decide +kernel
theorem dX7_digest_71 : decode cX7_digest 71 = .ok (.ladd, 1) := by decide +kernel
theorem dX7_digest_72 : decode cX7_digest 72 = .ok (.lstore_n 1, 1) := by decide +kernel
theorem dX7_digest_73 : decode cX7_digest 73 = .ok (.iinc 3 1, 3) := by decide +kernel
theorem dX7_digest_76 : decode cX7_digest 76 = .ok (.goto (-43), 3) := by decide +kernel
theorem dX7_digest_79 : decode cX7_digest 79 = .ok (.iconst 0, 1) := by decide +kernel
theorem dX7_digest_80 : decode cX7_digest 80 = .ok (.istore_n 3, 1) := by decide +kernel
theorem dX7_digest_81 : decode cX7_digest 81 = .ok (.iload_n 3, 1) := by decide +kernel
theorem dX7_digest_82 : decode cX7_digest 82 = .ok (.aload_n 0, 1) := by decide +kernel
theorem dX7_digest_83 : decode cX7_digest 83 = .ok (.getfield 10, 3) := by decide +kernel
theorem dX7_digest_86 : decode cX7_digest 86 = .ok (.invokevirtual 102, 3) := by decide +kernel
theorem dX7_digest_89 : decode cX7_digest 89 = .ok (.if_icmp .ge 69, 3) := by decide +kernel
theorem dX7_digest_92 : decode cX7_digest 92 = .ok (.iconst 0, 1) := by decide +kernel
theorem dX7_digest_93 : decode cX7_digest 93 = .ok (.istore 4, 2) := by decide +kernel
theorem dX7_digest_95 : decode cX7_digest 95 = .ok (.iload 4, 2) := by decide +kernel
theorem dX7_digest_97 : decode cX7_digest 97 = .ok (.iconst 2, 1) := by decide +kernel
theorem dX7_digest_98 : decode cX7_digest 98 = .ok (.if_icmp .gt 24, 3) := by decide +kernel
theorem dX7_digest_101 : decode cX7_digest 101 = .ok (.ldc2_w 222, 3) := by decide +kernel
theorem dX7_digest_104 : decode cX7_digest 104 = .ok (.lload_n 1, 1) := by decide +kernel
theorem dX7_digest_105 : decode cX7_digest 105 = .ok (.lmul, 1) := by decide +kernel
theorem dX7_digest_106 : decode cX7_digest 106 = .ok (.aload_n 0, 1) := by decide +kernel
theorem dX7_digest_107 : decode cX7_digest 107 = .ok (.iload_n 3, 1) := by decide +kernel
theorem dX7_digest_108 : decode cX7_digest 108 = .ok (.iload 4, 2) := by decide +kernel
theorem dX7_digest_110 : decode cX7_digest 110 = .ok (.invokevirtual 232, 3) := by decide +kernel
theorem dX7_digest_113 : decode cX7_digest 113 = .ok (.i2l, 1) := by decide +kernel
theorem dX7_digest_114 : decode cX7_digest 114 = .ok (.ladd, 1) := by decide +kernel
theorem dX7_digest_115 : decode cX7_digest 115 = .ok (.lstore_n 1, 1) := by decide +kernel
theorem dX7_digest_116 : decode cX7_digest 116 = .ok (.iinc 4 1, 3) := by decide +kernel
theorem dX7_digest_119 : decode cX7_digest 119 = .ok (.goto (-24), 3) := by decide +kernel
theorem dX7_digest_122 : decode cX7_digest 122 = .ok (.iconst 0, 1) := by decide +kernel
theorem dX7_digest_123 : decode cX7_digest 123 = .ok (.istore 4, 2) := by decide +kernel
theorem dX7_digest_125 : decode cX7_digest 125 = .ok (.iload 4, 2) := by decide +kernel
theorem dX7_digest_127 : decode cX7_digest 127 = .ok (.iconst 2, 1) := by decide +kernel
theorem dX7_digest_128 : decode cX7_digest 128 = .ok (.if_icmp .gt 24, 3) := by decide +kernel
theorem dX7_digest_131 : decode cX7_digest 131 = .ok (.ldc2_w 222, 3) := by decide +kernel
theorem dX7_digest_134 : decode cX7_digest 134 = .ok (.lload_n 1, 1) := by decide +kernel
theorem dX7_digest_135 : decode cX7_digest 135 = .ok (.lmul, 1) := by decide +kernel
theorem dX7_digest_136 : decode cX7_digest 136 = .ok (.aload_n 0, 1) := by decide +kernel
theorem dX7_digest_137 : decode cX7_digest 137 = .ok (.iload_n 3, 1) := by decide +kernel
theorem dX7_digest_138 : decode cX7_digest 138 = .ok (.iload 4, 2) := by decide +kernel
theorem dX7_digest_140 : decode cX7_digest 140 = .ok (.invokevirtual 235, 3) := by decide +kernel
theorem dX7_digest_143 : decode cX7_digest 143 = .ok (.i2l, 1) := by decide +kernel
theorem dX7_digest_144 : decode cX7_digest 144 = .ok (.ladd, 1) := by decide +kernel
theorem dX7_digest_145 : decode cX7_digest 145 = .ok (.lstore_n 1, 1) := by decide +kernel
theorem dX7_digest_146 : decode cX7_digest 146 = .ok (.iinc 4 1, 3) := by decide +kernel
theorem dX7_digest_149 : decode cX7_digest 149 = .ok (.goto (-24), 3) := by decide +kernel
theorem dX7_digest_152 : decode cX7_digest 152 = .ok (.iinc 3 1, 3) := by decide +kernel
theorem dX7_digest_155 : decode cX7_digest 155 = .ok (.goto (-74), 3) := by decide +kernel
theorem dX7_digest_158 : decode cX7_digest 158 = .ok (.aload_n 0, 1) := by decide +kernel
theorem dX7_digest_159 : decode cX7_digest 159 = .ok (.iconst 2, 1) := by decide +kernel
theorem dX7_digest_160 : decode cX7_digest 160 = .ok (.invokevirtual 224, 3) := by decide +kernel
theorem dX7_digest_163 : decode cX7_digest 163 = .ok (.istore_n 3, 1) := by decide +kernel
theorem dX7_digest_164 : decode cX7_digest 164 = .ok (.iconst 0, 1) := by decide +kernel
theorem dX7_digest_165 : decode cX7_digest 165 = .ok (.istore 4, 2) := by decide +kernel
theorem dX7_digest_167 : decode cX7_digest 167 = .ok (.iload 4, 2) := by decide +kernel
theorem dX7_digest_169 : decode cX7_digest 169 = .ok (.iload_n 3, 1) := by decide +kernel
theorem dX7_digest_170 : decode cX7_digest 170 = .ok (.if_icmp .ge 40, 3) := by decide +kernel
theorem dX7_digest_173 : decode cX7_digest 173 = .ok (.iconst 0, 1) := by decide +kernel
theorem dX7_digest_174 : decode cX7_digest 174 = .ok (.istore 5, 2) := by decide +kernel
theorem dX7_digest_176 : decode cX7_digest 176 = .ok (.iload 5, 2) := by decide +kernel
theorem dX7_digest_178 : decode cX7_digest 178 = .ok (.iconst 3, 1) := by decide +kernel
theorem dX7_digest_179 : decode cX7_digest 179 = .ok (.if_icmp .gt 25, 3) := by decide +kernel
theorem dX7_digest_182 : decode cX7_digest 182 = .ok (.ldc2_w 222, 3) := by decide +kernel
theorem dX7_digest_185 : decode cX7_digest 185 = .ok (.lload_n 1, 1) := by decide +kernel
theorem dX7_digest_186 : decode cX7_digest 186 = .ok (.lmul, 1) := by decide +kernel
theorem dX7_digest_187 : decode cX7_digest 187 = .ok (.aload_n 0, 1) := by decide +kernel
theorem dX7_digest_188 : decode cX7_digest 188 = .ok (.iload 4, 2) := by decide +kernel
theorem dX7_digest_190 : decode cX7_digest 190 = .ok (.iload 5, 2) := by decide +kernel
theorem dX7_digest_192 : decode cX7_digest 192 = .ok (.invokevirtual 238, 3) := by decide +kernel
theorem dX7_digest_195 : decode cX7_digest 195 = .ok (.i2l, 1) := by decide +kernel
theorem dX7_digest_196 : decode cX7_digest 196 = .ok (.ladd, 1) := by decide +kernel
theorem dX7_digest_197 : decode cX7_digest 197 = .ok (.lstore_n 1, 1) := by decide +kernel
theorem dX7_digest_198 : decode cX7_digest 198 = .ok (.iinc 5 1, 3) := by decide +kernel
theorem dX7_digest_201 : decode cX7_digest 201 = .ok (.goto (-25), 3) := by decide +kernel
theorem dX7_digest_204 : decode cX7_digest 204 = .ok (.iinc 4 1, 3) := by decide +kernel
theorem dX7_digest_207 : decode cX7_digest 207 = .ok (.goto (-40), 3) := by decide +kernel
theorem dX7_digest_210 : decode cX7_digest 210 = .ok (.iconst 0, 1) := by decide +kernel
theorem dX7_digest_211 : decode cX7_digest 211 = .ok (.istore 4, 2) := by decide +kernel
theorem dX7_digest_213 : decode cX7_digest 213 = .ok (.iload 4, 2) := by decide +kernel
theorem dX7_digest_215 : decode cX7_digest 215 = .ok (.iconst 3, 1) := by decide +kernel
theorem dX7_digest_216 : decode cX7_digest 216 = .ok (.if_icmp .gt 23, 3) := by decide +kernel
theorem dX7_digest_219 : decode cX7_digest 219 = .ok (.ldc2_w 222, 3) := by decide +kernel
theorem dX7_digest_222 : decode cX7_digest 222 = .ok (.lload_n 1, 1) := by decide +kernel
theorem dX7_digest_223 : decode cX7_digest 223 = .ok (.lmul, 1) := by decide +kernel
theorem dX7_digest_224 : decode cX7_digest 224 = .ok (.aload_n 0, 1) := by decide +kernel
theorem dX7_digest_225 : decode cX7_digest 225 = .ok (.iload 4, 2) := by decide +kernel
theorem dX7_digest_227 : decode cX7_digest 227 = .ok (.invokevirtual 241, 3) := by decide +kernel
theorem dX7_digest_230 : decode cX7_digest 230 = .ok (.i2l, 1) := by decide +kernel
theorem dX7_digest_231 : decode cX7_digest 231 = .ok (.ladd, 1) := by decide +kernel
theorem dX7_digest_232 : decode cX7_digest 232 = .ok (.lstore_n 1, 1) := by decide +kernel
theorem dX7_digest_233 : decode cX7_digest 233 = .ok (.iinc 4 1, 3) := by decide +kernel
theorem dX7_digest_236 : decode cX7_digest 236 = .ok (.goto (-23), 3) := by decide +kernel
theorem dX7_digest_239 : decode cX7_digest 239 = .ok (.iconst 0, 1) := by decide +kernel
theorem dX7_digest_240 : decode cX7_digest 240 = .ok (.istore 4, 2) := by decide +kernel
theorem dX7_digest_242 : decode cX7_digest 242 = .ok (.iload 4, 2) := by decide +kernel
theorem dX7_digest_244 : decode cX7_digest 244 = .ok (.iconst 4, 1) := by decide +kernel
theorem dX7_digest_245 : decode cX7_digest 245 = .ok (.if_icmp .ge 41, 3) := by decide +kernel
theorem dX7_digest_248 : decode cX7_digest 248 = .ok (.ldc2_w 222, 3) := by decide +kernel
theorem dX7_digest_251 : decode cX7_digest 251 = .ok (.lload_n 1, 1) := by decide +kernel
theorem dX7_digest_252 : decode cX7_digest 252 = .ok (.lmul, 1) := by decide +kernel
theorem dX7_digest_253 : decode cX7_digest 253 = .ok (.aload_n 0, 1) := by decide +kernel
theorem dX7_digest_254 : decode cX7_digest 254 = .ok (.iload 4, 2) := by decide +kernel
theorem dX7_digest_256 : decode cX7_digest 256 = .ok (.iconst 4, 1) := by decide +kernel
theorem dX7_digest_257 : decode cX7_digest 257 = .ok (.iconst 4, 1) := by decide +kernel
theorem dX7_digest_258 : decode cX7_digest 258 = .ok (.invokevirtual 244, 3) := by decide +kernel
theorem dX7_digest_261 : decode cX7_digest 261 = .ok (.i2l, 1) := by decide +kernel
theorem dX7_digest_262 : decode cX7_digest 262 = .ok (.ladd, 1) := by decide +kernel
theorem dX7_digest_263 : decode cX7_digest 263 = .ok (.lstore_n 1, 1) := by decide +kernel
theorem dX7_digest_264 : decode cX7_digest 264 = .ok (.ldc2_w 222, 3) := by decide +kernel
theorem dX7_digest_267 : decode cX7_digest 267 = .ok (.lload_n 1, 1) := by decide +kernel
theorem dX7_digest_268 : decode cX7_digest 268 = .ok (.lmul, 1) := by decide +kernel
theorem dX7_digest_269 : decode cX7_digest 269 = .ok (.aload_n 0, 1) := by decide +kernel
theorem dX7_digest_270 : decode cX7_digest 270 = .ok (.iload 4, 2) := by decide +kernel
theorem dX7_digest_272 : decode cX7_digest 272 = .ok (.iconst 4, 1) := by decide +kernel
theorem dX7_digest_273 : decode cX7_digest 273 = .ok (.iconst 5, 1) := by decide +kernel
theorem dX7_digest_274 : decode cX7_digest 274 = .ok (.invokevirtual 247, 3) := by decide +kernel
theorem dX7_digest_277 : decode cX7_digest 277 = .ok (.i2l, 1) := by decide +kernel
theorem dX7_digest_278 : decode cX7_digest 278 = .ok (.ladd, 1) := by decide +kernel
theorem dX7_digest_279 : decode cX7_digest 279 = .ok (.lstore_n 1, 1) := by decide +kernel
theorem dX7_digest_280 : decode cX7_digest 280 = .ok (.iinc 4 1, 3) := by decide +kernel
theorem dX7_digest_283 : decode cX7_digest 283 = .ok (.goto (-41), 3) := by decide +kernel
theorem dX7_digest_286 : decode cX7_digest 286 = .ok (.ldc2_w 222, 3) := by decide +kernel
theorem dX7_digest_289 : decode cX7_digest 289 = .ok (.lload_n 1, 1) := by decide +kernel
theorem dX7_digest_290 : decode cX7_digest 290 = .ok (.lmul, 1) := by decide +kernel
theorem dX7_digest_291 : decode cX7_digest 291 = .ok (.aload_n 0, 1) := by decide +kernel
theorem dX7_digest_292 : decode cX7_digest 292 = .ok (.iconst 0, 1) := by decide +kernel
theorem dX7_digest_293 : decode cX7_digest 293 = .ok (.invokevirtual 250, 3) := by decide +kernel
theorem dX7_digest_296 : decode cX7_digest 296 = .ok (.i2l, 1) := by decide +kernel
theorem dX7_digest_297 : decode cX7_digest 297 = .ok (.ladd, 1) := by decide +kernel
theorem dX7_digest_298 : decode cX7_digest 298 = .ok (.lstore_n 1, 1) := by decide +kernel
theorem dX7_digest_299 : decode cX7_digest 299 = .ok (.ldc2_w 222, 3) := by decide +kernel
theorem dX7_digest_302 : decode cX7_digest 302 = .ok (.lload_n 1, 1) := by decide +kernel
theorem dX7_digest_303 : decode cX7_digest 303 = .ok (.lmul, 1) := by decide +kernel
theorem dX7_digest_304 : decode cX7_digest 304 = .ok (.aload_n 0, 1) := by decide +kernel
theorem dX7_digest_305 : decode cX7_digest 305 = .ok (.invokevirtual 253, 3) := by decide +kernel
theorem dX7_digest_308 : decode cX7_digest 308 = .ok (.invokestatic 257, 3) := by decide +kernel
theorem dX7_digest_311 : decode cX7_digest 311 = .ok (.ladd, 1) := by decide +kernel
theorem dX7_digest_312 : decode cX7_digest 312 = .ok (.lstore_n 1, 1) := by decide +kernel
theorem dX7_digest_313 : decode cX7_digest 313 = .ok (.ldc2_w 222, 3) := by decide +kernel
theorem dX7_digest_316 : decode cX7_digest 316 = .ok (.lload_n 1, 1) := by decide +kernel
theorem dX7_digest_317 : decode cX7_digest 317 = .ok (.lmul, 1) := by decide +kernel
theorem dX7_digest_318 : decode cX7_digest 318 = .ok (.aload_n 0, 1) := by decide +kernel
theorem dX7_digest_319 : decode cX7_digest 319 = .ok (.getfield 23, 3) := by decide +kernel
theorem dX7_digest_322 : decode cX7_digest 322 = .ok (.invokevirtual 132, 3) := by decide +kernel
theorem dX7_digest_325 : decode cX7_digest 325 = .ok (.i2l, 1) := by decide +kernel
theorem dX7_digest_326 : decode cX7_digest 326 = .ok (.ladd, 1) := by decide +kernel
theorem dX7_digest_327 : decode cX7_digest 327 = .ok (.lstore_n 1, 1) := by decide +kernel
theorem dX7_digest_328 : decode cX7_digest 328 = .ok (.iconst 0, 1) := by decide +kernel
theorem dX7_digest_329 : decode cX7_digest 329 = .ok (.istore 4, 2) := by decide +kernel
theorem dX7_digest_331 : decode cX7_digest 331 = .ok (.iload 4, 2) := by decide +kernel
theorem dX7_digest_333 : decode cX7_digest 333 = .ok (.aload_n 0, 1) := by decide +kernel
theorem dX7_digest_334 : decode cX7_digest 334 = .ok (.getfield 23, 3) := by decide +kernel
theorem dX7_digest_337 : decode cX7_digest 337 = .ok (.invokevirtual 132, 3) := by decide +kernel
theorem dX7_digest_340 : decode cX7_digest 340 = .ok (.if_icmp .ge 26, 3) := by decide +kernel
theorem dX7_digest_343 : decode cX7_digest 343 = .ok (.ldc2_w 222, 3) := by decide +kernel
theorem dX7_digest_346 : decode cX7_digest 346 = .ok (.lload_n 1, 1) := by decide +kernel
theorem dX7_digest_347 : decode cX7_digest 347 = .ok (.lmul, 1) := by decide +kernel
theorem dX7_digest_348 : decode cX7_digest 348 = .ok (.aload_n 0, 1) := by decide +kernel
theorem dX7_digest_349 : decode cX7_digest 349 = .ok (.getfield 23, 3) := by decide +kernel
theorem dX7_digest_352 : decode cX7_digest 352 = .ok (.iload 4, 2) := by decide +kernel
theorem dX7_digest_354 : decode cX7_digest 354 = .ok (.invokevirtual 261, 3) := by decide +kernel
theorem dX7_digest_357 : decode cX7_digest 357 = .ok (.i2l, 1) := by decide +kernel
theorem dX7_digest_358 : decode cX7_digest 358 = .ok (.ladd, 1) := by decide +kernel
theorem dX7_digest_359 : decode cX7_digest 359 = .ok (.lstore_n 1, 1) := by decide +kernel
theorem dX7_digest_360 : decode cX7_digest 360 = .ok (.iinc 4 1, 3) := by decide +kernel
theorem dX7_digest_363 : decode cX7_digest 363 = .ok (.goto (-32), 3) := by decide +kernel
theorem dX7_digest_366 : decode cX7_digest 366 = .ok (.lload_n 1, 1) := by decide +kernel
theorem dX7_digest_367 : decode cX7_digest 367 = .ok (.lreturn, 1) := by decide +kernel
theorem dX7_addedRule_0 : decode cX7_addedRule 0 = .ok (.aload_n 0, 1) := by decide +kernel
theorem dX7_addedRule_1 : decode cX7_addedRule 1 = .ok (.invokevirtual 83, 3) := by decide +kernel
theorem dX7_addedRule_4 : decode cX7_addedRule 4 = .ok (.aload_n 0, 1) := by decide +kernel
theorem dX7_addedRule_5 : decode cX7_addedRule 5 = .ok (.getfield 10, 3) := by decide +kernel
theorem dX7_addedRule_8 : decode cX7_addedRule 8 = .ok (.iload_n 1, 1) := by decide +kernel
theorem dX7_addedRule_9 : decode cX7_addedRule 9 = .ok (.iload_n 2, 1) := by decide +kernel
theorem dX7_addedRule_10 : decode cX7_addedRule 10 = .ok (.iload_n 3, 1) := by decide +kernel
theorem dX7_addedRule_11 : decode cX7_addedRule 11 = .ok (.invokevirtual 262, 3) := by decide +kernel
theorem dX7_addedRule_14 : decode cX7_addedRule 14 = .ok (.pop, 1) := by decide +kernel
theorem dX7_addedRule_15 : decode cX7_addedRule 15 = .ok (.aload_n 0, 1) := by decide +kernel
theorem dX7_addedRule_16 : decode cX7_addedRule 16 = .ok (.getfield 37, 3) := by decide +kernel
theorem dX7_addedRule_19 : decode cX7_addedRule 19 = .ok (.aload_n 0, 1) := by decide +kernel
theorem dX7_addedRule_20 : decode cX7_addedRule 20 = .ok (.getfield 10, 3) := by decide +kernel
theorem dX7_addedRule_23 : decode cX7_addedRule 23 = .ok (.invokevirtual 90, 3) := by decide +kernel
theorem dX7_addedRule_26 : decode cX7_addedRule 26 = .ok (.aload_n 0, 1) := by decide +kernel
theorem dX7_addedRule_27 : decode cX7_addedRule 27 = .ok (.getfield 10, 3) := by decide +kernel
theorem dX7_addedRule_30 : decode cX7_addedRule 30 = .ok (.invokevirtual 102, 3) := by decide +kernel
theorem dX7_addedRule_33 : decode cX7_addedRule 33 = .ok (.iconst 1, 1) := by decide +kernel
theorem dX7_addedRule_34 : decode cX7_addedRule 34 = .ok (.isub, 1) := by decide +kernel
theorem dX7_addedRule_35 : decode cX7_addedRule 35 = .ok (.ireturn, 1) := by decide +kernel
theorem dX7_save_0 : decode cX7_save 0 = .ok (.aload_n 0, 1) := by decide +kernel
theorem dX7_save_1 : decode cX7_save 1 = .ok (.getfield 157, 3) := by decide +kernel
theorem dX7_save_4 : decode cX7_save 4 = .ok (.aload_n 0, 1) := by decide +kernel
theorem dX7_save_5 : decode cX7_save 5 = .ok (.getfield 16, 3) := by decide +kernel
theorem dX7_save_8 : decode cX7_save 8 = .ok (.arraylength, 1) := by decide +kernel
theorem dX7_save_9 : decode cX7_save 9 = .ok (.if_icmp .lt 7, 3) := by decide +kernel
theorem dX7_save_12 : decode cX7_save 12 = .ok (.aload_n 0, 1) := by decide +kernel
theorem dX7_save_13 : decode cX7_save 13 = .ok (.invokevirtual 265, 3) := by decide +kernel
theorem dX7_save_16 : decode cX7_save 16 = .ok (.aload_n 0, 1) := by decide +kernel
theorem dX7_save_17 : decode cX7_save 17 = .ok (.getfield 157, 3) := by decide +kernel
theorem dX7_save_20 : decode cX7_save 20 = .ok (.ifCond .lt 41, 3) := by decide +kernel
theorem dX7_save_23 : decode cX7_save 23 = .ok (.aload_n 0, 1) := by decide +kernel
theorem dX7_save_24 : decode cX7_save 24 = .ok (.getfield 157, 3) := by decide +kernel
theorem dX7_save_27 : decode cX7_save 27 = .ok (.aload_n 0, 1) := by decide +kernel
theorem dX7_save_28 : decode cX7_save 28 = .ok (.getfield 16, 3) := by decide +kernel
theorem dX7_save_31 : decode cX7_save 31 = .ok (.arraylength, 1) := by decide +kernel
theorem dX7_save_32 : decode cX7_save 32 = .ok (.if_icmp .ge 29, 3) := by decide +kernel
theorem dX7_save_35 : decode cX7_save 35 = .ok (.aload_n 0, 1) := by decide +kernel
theorem dX7_save_36 : decode cX7_save 36 = .ok (.getfield 16, 3) := by decide +kernel
theorem dX7_save_39 : decode cX7_save 39 = .ok (.aload_n 0, 1) := by decide +kernel
theorem dX7_save_40 : decode cX7_save 40 = .ok (.getfield 157, 3) := by decide +kernel
theorem dX7_save_43 : decode cX7_save 43 = .ok (.aaload, 1) := by decide +kernel
theorem dX7_save_44 : decode cX7_save 44 = .ok (.aload_n 0, 1) := by decide +kernel
theorem dX7_save_45 : decode cX7_save 45 = .ok (.getfield 10, 3) := by decide +kernel
theorem dX7_save_48 : decode cX7_save 48 = .ok (.invokevirtual 149, 3) := by decide +kernel
theorem dX7_save_51 : decode cX7_save 51 = .ok (.aload_n 0, 1) := by decide +kernel
theorem dX7_save_52 : decode cX7_save 52 = .ok (.dup, 1) := by decide +kernel
theorem dX7_save_53 : decode cX7_save 53 = .ok (.getfield 157, 3) := by decide +kernel
theorem dX7_save_56 : decode cX7_save 56 = .ok (.iconst 1, 1) := by decide +kernel
theorem dX7_save_57 : decode cX7_save 57 = .ok (.iadd, 1) := by decide +kernel
theorem dX7_save_58 : decode cX7_save 58 = .ok (.putfield 157, 3) := by decide +kernel
theorem dX7_save_61 : decode cX7_save 61 = .ok (.return_, 1) := by decide +kernel
theorem dX7_dropOldest_0 : decode cX7_dropOldest 0 = .ok (.aload_n 0, 1) := by decide +kernel
theorem dX7_dropOldest_1 : decode cX7_dropOldest 1 = .ok (.getfield 16, 3) := by decide +kernel
theorem dX7_dropOldest_4 : decode cX7_dropOldest 4 = .ok (.iconst 0, 1) := by decide +kernel
theorem dX7_dropOldest_5 : decode cX7_dropOldest 5 = .ok (.aaload, 1) := by decide +kernel
theorem dX7_dropOldest_6 : decode cX7_dropOldest 6 = .ok (.astore_n 1, 1) := by decide +kernel
theorem dX7_dropOldest_7 : decode cX7_dropOldest 7 = .ok (.iconst 1, 1) := by decide +kernel
theorem dX7_dropOldest_8 : decode cX7_dropOldest 8 = .ok (.istore_n 2, 1) := by decide +kernel
theorem dX7_dropOldest_9 : decode cX7_dropOldest 9 = .ok (.iload_n 2, 1) := by decide +kernel
theorem dX7_dropOldest_10 : decode cX7_dropOldest 10 = .ok (.aload_n 0, 1) := by decide +kernel
theorem dX7_dropOldest_11 : decode cX7_dropOldest 11 = .ok (.getfield 16, 3) := by decide +kernel
theorem dX7_dropOldest_14 : decode cX7_dropOldest 14 = .ok (.arraylength, 1) := by decide +kernel
theorem dX7_dropOldest_15 : decode cX7_dropOldest 15 = .ok (.if_icmp .ge 23, 3) := by decide +kernel
theorem dX7_dropOldest_18 : decode cX7_dropOldest 18 = .ok (.aload_n 0, 1) := by decide +kernel
theorem dX7_dropOldest_19 : decode cX7_dropOldest 19 = .ok (.getfield 16, 3) := by decide +kernel
theorem dX7_dropOldest_22 : decode cX7_dropOldest 22 = .ok (.iload_n 2, 1) := by decide +kernel
theorem dX7_dropOldest_23 : decode cX7_dropOldest 23 = .ok (.iconst 1, 1) := by decide +kernel
theorem dX7_dropOldest_24 : decode cX7_dropOldest 24 = .ok (.isub, 1) := by decide +kernel
theorem dX7_dropOldest_25 : decode cX7_dropOldest 25 = .ok (.aload_n 0, 1) := by decide +kernel
theorem dX7_dropOldest_26 : decode cX7_dropOldest 26 = .ok (.getfield 16, 3) := by decide +kernel
theorem dX7_dropOldest_29 : decode cX7_dropOldest 29 = .ok (.iload_n 2, 1) := by decide +kernel
theorem dX7_dropOldest_30 : decode cX7_dropOldest 30 = .ok (.aaload, 1) := by decide +kernel
theorem dX7_dropOldest_31 : decode cX7_dropOldest 31 = .ok (.aastore, 1) := by decide +kernel
theorem dX7_dropOldest_32 : decode cX7_dropOldest 32 = .ok (.iinc 2 1, 3) := by decide +kernel
theorem dX7_dropOldest_35 : decode cX7_dropOldest 35 = .ok (.goto (-26), 3) := by decide +kernel
theorem dX7_dropOldest_38 : decode cX7_dropOldest 38 = .ok (.aload_n 0, 1) := by decide +kernel
theorem dX7_dropOldest_39 : decode cX7_dropOldest 39 = .ok (.getfield 16, 3) := by decide +kernel
theorem dX7_dropOldest_42 : decode cX7_dropOldest 42 = .ok (.aload_n 0, 1) := by decide +kernel
theorem dX7_dropOldest_43 : decode cX7_dropOldest 43 = .ok (.getfield 16, 3) := by decide +kernel
theorem dX7_dropOldest_46 : decode cX7_dropOldest 46 = .ok (.arraylength, 1) := by decide +kernel
theorem dX7_dropOldest_47 : decode cX7_dropOldest 47 = .ok (.iconst 1, 1) := by decide +kernel
theorem dX7_dropOldest_48 : decode cX7_dropOldest 48 = .ok (.isub, 1) := by decide +kernel
theorem dX7_dropOldest_49 : decode cX7_dropOldest 49 = .ok (.aload_n 1, 1) := by decide +kernel
theorem dX7_dropOldest_50 : decode cX7_dropOldest 50 = .ok (.aastore, 1) := by decide +kernel
theorem dX7_dropOldest_51 : decode cX7_dropOldest 51 = .ok (.aload_n 0, 1) := by decide +kernel
theorem dX7_dropOldest_52 : decode cX7_dropOldest 52 = .ok (.aload_n 0, 1) := by decide +kernel
theorem dX7_dropOldest_53 : decode cX7_dropOldest 53 = .ok (.getfield 16, 3) := by decide +kernel
theorem dX7_dropOldest_56 : decode cX7_dropOldest 56 = .ok (.arraylength, 1) := by decide +kernel
theorem dX7_dropOldest_57 : decode cX7_dropOldest 57 = .ok (.iconst 1, 1) := by decide +kernel
theorem dX7_dropOldest_58 : decode cX7_dropOldest 58 = .ok (.isub, 1) := by decide +kernel
theorem dX7_dropOldest_59 : decode cX7_dropOldest 59 = .ok (.putfield 157, 3) := by decide +kernel
theorem dX7_dropOldest_62 : decode cX7_dropOldest 62 = .ok (.return_, 1) := by decide +kernel
theorem dX7_bitsOf_0 : decode cX7_bitsOf 0 = .ok (.dload_n 0, 1) := by decide +kernel
theorem dX7_bitsOf_1 : decode cX7_bitsOf 1 = .ok (.dconst 0, 1) := by decide +kernel
theorem dX7_bitsOf_2 : decode cX7_bitsOf 2 = .ok (.dcmp .l, 1) := by decide +kernel
theorem dX7_bitsOf_3 : decode cX7_bitsOf 3 = .ok (.ifCond .gt 5, 3) := by decide +kernel
theorem dX7_bitsOf_6 : decode cX7_bitsOf 6 = .ok (.lconst 0, 1) := by decide +kernel
theorem dX7_bitsOf_7 : decode cX7_bitsOf 7 = .ok (.lreturn, 1) := by decide +kernel
theorem dX7_bitsOf_8 : decode cX7_bitsOf 8 = .ok (.dload_n 0, 1) := by decide +kernel
theorem dX7_bitsOf_9 : decode cX7_bitsOf 9 = .ok (.dstore_n 2, 1) := by decide +kernel
theorem dX7_bitsOf_10 : decode cX7_bitsOf 10 = .ok (.ldc2_w 268, 3) := by decide +kernel
theorem dX7_bitsOf_13 : decode cX7_bitsOf 13 = .ok (.lstore 4, 2) := by decide +kernel
theorem dX7_bitsOf_15 : decode cX7_bitsOf 15 = .ok (.iconst 0, 1) := by decide +kernel
theorem dX7_bitsOf_16 : decode cX7_bitsOf 16 = .ok (.istore 6, 2) := by decide +kernel
theorem dX7_bitsOf_18 : decode cX7_bitsOf 18 = .ok (.iload 6, 2) := by decide +kernel
theorem dX7_bitsOf_20 : decode cX7_bitsOf 20 = .ok (.sipush 1022, 3) := by decide +kernel
theorem dX7_bitsOf_23 : decode cX7_bitsOf 23 = .ok (.if_icmp .ge 27, 3) := by decide +kernel
theorem dX7_bitsOf_26 : decode cX7_bitsOf 26 = .ok (.dload_n 2, 1) := by decide +kernel
theorem dX7_bitsOf_27 : decode cX7_bitsOf 27 = .ok (.dconst 1, 1) := by decide +kernel
theorem dX7_bitsOf_28 : decode cX7_bitsOf 28 = .ok (.dcmp .g, 1) := by decide +kernel
theorem dX7_bitsOf_29 : decode cX7_bitsOf 29 = .ok (.ifCond .ge 21, 3) := by decide +kernel
theorem dX7_bitsOf_32 : decode cX7_bitsOf 32 = .ok (.dload_n 2, 1) := by decide +kernel
theorem dX7_bitsOf_33 : decode cX7_bitsOf 33 = .ok (.ldc2_w 270, 3) := by decide +kernel
theorem dX7_bitsOf_36 : decode cX7_bitsOf 36 = .ok (.dmul, 1) := by decide +kernel
theorem dX7_bitsOf_37 : decode cX7_bitsOf 37 = .ok (.dstore_n 2, 1) := by decide +kernel
theorem dX7_bitsOf_38 : decode cX7_bitsOf 38 = .ok (.lload 4, 2) := by decide +kernel
theorem dX7_bitsOf_40 : decode cX7_bitsOf 40 = .ok (.lconst 1, 1) := by decide +kernel
theorem dX7_bitsOf_41 : decode cX7_bitsOf 41 = .ok (.lsub, 1) := by decide +kernel
theorem dX7_bitsOf_42 : decode cX7_bitsOf 42 = .ok (.lstore 4, 2) := by decide +kernel
theorem dX7_bitsOf_44 : decode cX7_bitsOf 44 = .ok (.iinc 6 1, 3) := by decide +kernel
theorem dX7_bitsOf_47 : decode cX7_bitsOf 47 = .ok (.goto (-29), 3) := by decide +kernel
theorem dX7_bitsOf_50 : decode cX7_bitsOf 50 = .ok (.dload_n 2, 1) := by decide +kernel
theorem dX7_bitsOf_51 : decode cX7_bitsOf 51 = .ok (.dconst 1, 1) := by decide +kernel
theorem dX7_bitsOf_52 : decode cX7_bitsOf 52 = .ok (.dsub, 1) := by decide +kernel
theorem dX7_bitsOf_53 : decode cX7_bitsOf 53 = .ok (.ldc2_w 272, 3) := by decide +kernel
theorem dX7_bitsOf_56 : decode cX7_bitsOf 56 = .ok (.dmul, 1) := by decide +kernel
theorem dX7_bitsOf_57 : decode cX7_bitsOf 57 = .ok (.d2l, 1) := by decide +kernel
theorem dX7_bitsOf_58 : decode cX7_bitsOf 58 = .ok (.lstore 6, 2) := by decide +kernel
theorem dX7_bitsOf_60 : decode cX7_bitsOf 60 = .ok (.lload 4, 2) := by decide +kernel
theorem dX7_bitsOf_62 : decode cX7_bitsOf 62 = .ok (.bipush 52, 2) := by decide +kernel
theorem dX7_bitsOf_64 : decode cX7_bitsOf 64 = .ok (.lshl, 1) := by decide +kernel
theorem dX7_bitsOf_65 : decode cX7_bitsOf 65 = .ok (.lload 6, 2) := by decide +kernel
theorem dX7_bitsOf_67 : decode cX7_bitsOf 67 = .ok (.lor, 1) := by decide +kernel
theorem dX7_bitsOf_68 : decode cX7_bitsOf 68 = .ok (.lreturn, 1) := by decide +kernel
theorem dJ6_bitCount_0f7a4_0 : decode cJ6_bitCount_0f7a4 0 = .ok (.iload_n 0, 1) := by decide +kernel
theorem dJ6_bitCount_0f7a4_1 : decode cJ6_bitCount_0f7a4 1 = .ok (.iload_n 0, 1) := by decide +kernel
theorem dJ6_bitCount_0f7a4_2 : decode cJ6_bitCount_0f7a4 2 = .ok (.iconst 1, 1) := by decide +kernel
theorem dJ6_bitCount_0f7a4_3 : decode cJ6_bitCount_0f7a4 3 = .ok (.iushr, 1) := by decide +kernel
theorem dJ6_bitCount_0f7a4_4 : decode cJ6_bitCount_0f7a4 4 = .ok (.ldc_w 265, 3) := by decide +kernel
theorem dJ6_bitCount_0f7a4_7 : decode cJ6_bitCount_0f7a4 7 = .ok (.iand, 1) := by decide +kernel
theorem dJ6_bitCount_0f7a4_8 : decode cJ6_bitCount_0f7a4 8 = .ok (.isub, 1) := by decide +kernel
theorem dJ6_bitCount_0f7a4_9 : decode cJ6_bitCount_0f7a4 9 = .ok (.istore_n 0, 1) := by decide +kernel
theorem dJ6_bitCount_0f7a4_10 : decode cJ6_bitCount_0f7a4 10 = .ok (.iload_n 0, 1) := by decide +kernel
theorem dJ6_bitCount_0f7a4_11 : decode cJ6_bitCount_0f7a4 11 = .ok (.ldc_w 266, 3) := by decide +kernel
theorem dJ6_bitCount_0f7a4_14 : decode cJ6_bitCount_0f7a4 14 = .ok (.iand, 1) := by decide +kernel
theorem dJ6_bitCount_0f7a4_15 : decode cJ6_bitCount_0f7a4 15 = .ok (.iload_n 0, 1) := by decide +kernel
theorem dJ6_bitCount_0f7a4_16 : decode cJ6_bitCount_0f7a4 16 = .ok (.iconst 2, 1) := by decide +kernel
theorem dJ6_bitCount_0f7a4_17 : decode cJ6_bitCount_0f7a4 17 = .ok (.iushr, 1) := by decide +kernel
theorem dJ6_bitCount_0f7a4_18 : decode cJ6_bitCount_0f7a4 18 = .ok (.ldc_w 266, 3) := by decide +kernel
theorem dJ6_bitCount_0f7a4_21 : decode cJ6_bitCount_0f7a4 21 = .ok (.iand, 1) := by decide +kernel
theorem dJ6_bitCount_0f7a4_22 : decode cJ6_bitCount_0f7a4 22 = .ok (.iadd, 1) := by decide +kernel
theorem dJ6_bitCount_0f7a4_23 : decode cJ6_bitCount_0f7a4 23 = .ok (.istore_n 0, 1) := by decide +kernel
theorem dJ6_bitCount_0f7a4_24 : decode cJ6_bitCount_0f7a4 24 = .ok (.iload_n 0, 1) := by decide +kernel
theorem dJ6_bitCount_0f7a4_25 : decode cJ6_bitCount_0f7a4 25 = .ok (.iload_n 0, 1) := by decide +kernel
theorem dJ6_bitCount_0f7a4_26 : decode cJ6_bitCount_0f7a4 26 = .ok (.iconst 4, 1) := by decide +kernel
theorem dJ6_bitCount_0f7a4_27 : decode cJ6_bitCount_0f7a4 27 = .ok (.iushr, 1) := by decide +kernel
theorem dJ6_bitCount_0f7a4_28 : decode cJ6_bitCount_0f7a4 28 = .ok (.iadd, 1) := by decide +kernel
theorem dJ6_bitCount_0f7a4_29 : decode cJ6_bitCount_0f7a4 29 = .ok (.ldc_w 267, 3) := by decide +kernel
theorem dJ6_bitCount_0f7a4_32 : decode cJ6_bitCount_0f7a4 32 = .ok (.iand, 1) := by decide +kernel
theorem dJ6_bitCount_0f7a4_33 : decode cJ6_bitCount_0f7a4 33 = .ok (.istore_n 0, 1) := by decide +kernel
theorem dJ6_bitCount_0f7a4_34 : decode cJ6_bitCount_0f7a4 34 = .ok (.iload_n 0, 1) := by decide +kernel
theorem dJ6_bitCount_0f7a4_35 : decode cJ6_bitCount_0f7a4 35 = .ok (.iload_n 0, 1) := by decide +kernel
theorem dJ6_bitCount_0f7a4_36 : decode cJ6_bitCount_0f7a4 36 = .ok (.bipush 8, 2) := by decide +kernel
theorem dJ6_bitCount_0f7a4_38 : decode cJ6_bitCount_0f7a4 38 = .ok (.iushr, 1) := by decide +kernel
theorem dJ6_bitCount_0f7a4_39 : decode cJ6_bitCount_0f7a4 39 = .ok (.iadd, 1) := by decide +kernel
theorem dJ6_bitCount_0f7a4_40 : decode cJ6_bitCount_0f7a4 40 = .ok (.istore_n 0, 1) := by decide +kernel
theorem dJ6_bitCount_0f7a4_41 : decode cJ6_bitCount_0f7a4 41 = .ok (.iload_n 0, 1) := by decide +kernel
theorem dJ6_bitCount_0f7a4_42 : decode cJ6_bitCount_0f7a4 42 = .ok (.iload_n 0, 1) := by decide +kernel
theorem dJ6_bitCount_0f7a4_43 : decode cJ6_bitCount_0f7a4 43 = .ok (.bipush 16, 2) := by decide +kernel
theorem dJ6_bitCount_0f7a4_45 : decode cJ6_bitCount_0f7a4 45 = .ok (.iushr, 1) := by decide +kernel
theorem dJ6_bitCount_0f7a4_46 : decode cJ6_bitCount_0f7a4 46 = .ok (.iadd, 1) := by decide +kernel
theorem dJ6_bitCount_0f7a4_47 : decode cJ6_bitCount_0f7a4 47 = .ok (.istore_n 0, 1) := by decide +kernel
theorem dJ6_bitCount_0f7a4_48 : decode cJ6_bitCount_0f7a4 48 = .ok (.iload_n 0, 1) := by decide +kernel
theorem dJ6_bitCount_0f7a4_49 : decode cJ6_bitCount_0f7a4 49 = .ok (.bipush 63, 2) := by decide +kernel
theorem dJ6_bitCount_0f7a4_51 : decode cJ6_bitCount_0f7a4 51 = .ok (.iand, 1) := by decide +kernel
theorem dJ6_bitCount_0f7a4_52 : decode cJ6_bitCount_0f7a4 52 = .ok (.ireturn, 1) := by decide +kernel
theorem dJ13_bitCount_95d88_0 : decode cJ13_bitCount_95d88 0 = .ok (.lload_n 0, 1) := by decide +kernel
theorem dJ13_bitCount_95d88_1 : decode cJ13_bitCount_95d88 1 = .ok (.lload_n 0, 1) := by decide +kernel
theorem dJ13_bitCount_95d88_2 : decode cJ13_bitCount_95d88 2 = .ok (.iconst 1, 1) := by decide +kernel
theorem dJ13_bitCount_95d88_3 : decode cJ13_bitCount_95d88 3 = .ok (.lushr, 1) := by decide +kernel
theorem dJ13_bitCount_95d88_4 : decode cJ13_bitCount_95d88 4 = .ok (.ldc2_w 314, 3) := by decide +kernel
theorem dJ13_bitCount_95d88_7 : decode cJ13_bitCount_95d88 7 = .ok (.land, 1) := by decide +kernel
theorem dJ13_bitCount_95d88_8 : decode cJ13_bitCount_95d88 8 = .ok (.lsub, 1) := by decide +kernel
theorem dJ13_bitCount_95d88_9 : decode cJ13_bitCount_95d88 9 = .ok (.lstore_n 0, 1) := by decide +kernel
theorem dJ13_bitCount_95d88_10 : decode cJ13_bitCount_95d88 10 = .ok (.lload_n 0, 1) := by decide +kernel
theorem dJ13_bitCount_95d88_11 : decode cJ13_bitCount_95d88 11 = .ok (.ldc2_w 316, 3) := by decide +kernel
theorem dJ13_bitCount_95d88_14 : decode cJ13_bitCount_95d88 14 = .ok (.land, 1) := by decide +kernel
theorem dJ13_bitCount_95d88_15 : decode cJ13_bitCount_95d88 15 = .ok (.lload_n 0, 1) := by decide +kernel
theorem dJ13_bitCount_95d88_16 : decode cJ13_bitCount_95d88 16 = .ok (.iconst 2, 1) := by decide +kernel
theorem dJ13_bitCount_95d88_17 : decode cJ13_bitCount_95d88 17 = .ok (.lushr, 1) := by decide +kernel
theorem dJ13_bitCount_95d88_18 : decode cJ13_bitCount_95d88 18 = .ok (.ldc2_w 316, 3) := by decide +kernel
theorem dJ13_bitCount_95d88_21 : decode cJ13_bitCount_95d88 21 = .ok (.land, 1) := by decide +kernel
theorem dJ13_bitCount_95d88_22 : decode cJ13_bitCount_95d88 22 = .ok (.ladd, 1) := by decide +kernel
theorem dJ13_bitCount_95d88_23 : decode cJ13_bitCount_95d88 23 = .ok (.lstore_n 0, 1) := by decide +kernel
theorem dJ13_bitCount_95d88_24 : decode cJ13_bitCount_95d88 24 = .ok (.lload_n 0, 1) := by decide +kernel
theorem dJ13_bitCount_95d88_25 : decode cJ13_bitCount_95d88 25 = .ok (.lload_n 0, 1) := by decide +kernel
theorem dJ13_bitCount_95d88_26 : decode cJ13_bitCount_95d88 26 = .ok (.iconst 4, 1) := by decide +kernel
theorem dJ13_bitCount_95d88_27 : decode cJ13_bitCount_95d88 27 = .ok (.lushr, 1) := by decide +kernel
theorem dJ13_bitCount_95d88_28 : decode cJ13_bitCount_95d88 28 = .ok (.ladd, 1) := by decide +kernel
theorem dJ13_bitCount_95d88_29 : decode cJ13_bitCount_95d88 29 = .ok (.ldc2_w 318, 3) := by decide +kernel
theorem dJ13_bitCount_95d88_32 : decode cJ13_bitCount_95d88 32 = .ok (.land, 1) := by decide +kernel
theorem dJ13_bitCount_95d88_33 : decode cJ13_bitCount_95d88 33 = .ok (.lstore_n 0, 1) := by decide +kernel
theorem dJ13_bitCount_95d88_34 : decode cJ13_bitCount_95d88 34 = .ok (.lload_n 0, 1) := by decide +kernel
theorem dJ13_bitCount_95d88_35 : decode cJ13_bitCount_95d88 35 = .ok (.lload_n 0, 1) := by decide +kernel
theorem dJ13_bitCount_95d88_36 : decode cJ13_bitCount_95d88 36 = .ok (.bipush 8, 2) := by decide +kernel
theorem dJ13_bitCount_95d88_38 : decode cJ13_bitCount_95d88 38 = .ok (.lushr, 1) := by decide +kernel
theorem dJ13_bitCount_95d88_39 : decode cJ13_bitCount_95d88 39 = .ok (.ladd, 1) := by decide +kernel
theorem dJ13_bitCount_95d88_40 : decode cJ13_bitCount_95d88 40 = .ok (.lstore_n 0, 1) := by decide +kernel
theorem dJ13_bitCount_95d88_41 : decode cJ13_bitCount_95d88 41 = .ok (.lload_n 0, 1) := by decide +kernel
theorem dJ13_bitCount_95d88_42 : decode cJ13_bitCount_95d88 42 = .ok (.lload_n 0, 1) := by decide +kernel
theorem dJ13_bitCount_95d88_43 : decode cJ13_bitCount_95d88 43 = .ok (.bipush 16, 2) := by decide +kernel
theorem dJ13_bitCount_95d88_45 : decode cJ13_bitCount_95d88 45 = .ok (.lushr, 1) := by decide +kernel
theorem dJ13_bitCount_95d88_46 : decode cJ13_bitCount_95d88 46 = .ok (.ladd, 1) := by decide +kernel
theorem dJ13_bitCount_95d88_47 : decode cJ13_bitCount_95d88 47 = .ok (.lstore_n 0, 1) := by decide +kernel
theorem dJ13_bitCount_95d88_48 : decode cJ13_bitCount_95d88 48 = .ok (.lload_n 0, 1) := by decide +kernel
theorem dJ13_bitCount_95d88_49 : decode cJ13_bitCount_95d88 49 = .ok (.lload_n 0, 1) := by decide +kernel
theorem dJ13_bitCount_95d88_50 : decode cJ13_bitCount_95d88 50 = .ok (.bipush 32, 2) := by decide +kernel
theorem dJ13_bitCount_95d88_52 : decode cJ13_bitCount_95d88 52 = .ok (.lushr, 1) := by decide +kernel
theorem dJ13_bitCount_95d88_53 : decode cJ13_bitCount_95d88 53 = .ok (.ladd, 1) := by decide +kernel
theorem dJ13_bitCount_95d88_54 : decode cJ13_bitCount_95d88 54 = .ok (.lstore_n 0, 1) := by decide +kernel
theorem dJ13_bitCount_95d88_55 : decode cJ13_bitCount_95d88 55 = .ok (.lload_n 0, 1) := by decide +kernel
theorem dJ13_bitCount_95d88_56 : decode cJ13_bitCount_95d88 56 = .ok (.l2i, 1) := by decide +kernel
theorem dJ13_bitCount_95d88_57 : decode cJ13_bitCount_95d88 57 = .ok (.bipush 127, 2) := by decide +kernel
theorem dJ13_bitCount_95d88_59 : decode cJ13_bitCount_95d88 59 = .ok (.iand, 1) := by decide +kernel
theorem dJ13_bitCount_95d88_60 : decode cJ13_bitCount_95d88 60 = .ok (.ireturn, 1) := by decide +kernel
theorem dJ9_max_7cf53_0 : decode cJ9_max_7cf53 0 = .ok (.iload_n 0, 1) := by decide +kernel
theorem dJ9_max_7cf53_1 : decode cJ9_max_7cf53 1 = .ok (.iload_n 1, 1) := by decide +kernel
theorem dJ9_max_7cf53_2 : decode cJ9_max_7cf53 2 = .ok (.if_icmp .lt 7, 3) := by decide +kernel
theorem dJ9_max_7cf53_5 : decode cJ9_max_7cf53 5 = .ok (.iload_n 0, 1) := by decide +kernel
theorem dJ9_max_7cf53_6 : decode cJ9_max_7cf53 6 = .ok (.goto 4, 3) := by decide +kernel
theorem dJ9_max_7cf53_9 : decode cJ9_max_7cf53 9 = .ok (.iload_n 1, 1) := by decide +kernel
theorem dJ9_max_7cf53_10 : decode cJ9_max_7cf53 10 = .ok (.ireturn, 1) := by decide +kernel
theorem dJ9_min_7cf53_0 : decode cJ9_min_7cf53 0 = .ok (.iload_n 0, 1) := by decide +kernel
theorem dJ9_min_7cf53_1 : decode cJ9_min_7cf53 1 = .ok (.iload_n 1, 1) := by decide +kernel
theorem dJ9_min_7cf53_2 : decode cJ9_min_7cf53 2 = .ok (.if_icmp .gt 7, 3) := by decide +kernel
theorem dJ9_min_7cf53_5 : decode cJ9_min_7cf53 5 = .ok (.iload_n 0, 1) := by decide +kernel
theorem dJ9_min_7cf53_6 : decode cJ9_min_7cf53 6 = .ok (.goto 4, 3) := by decide +kernel
theorem dJ9_min_7cf53_9 : decode cJ9_min_7cf53 9 = .ok (.iload_n 1, 1) := by decide +kernel
theorem dJ9_min_7cf53_10 : decode cJ9_min_7cf53 10 = .ok (.ireturn, 1) := by decide +kernel
theorem dJ7_fill_53178_0 : decode cJ7_fill_53178 0 = .ok (.iconst 0, 1) := by decide +kernel
theorem dJ7_fill_53178_1 : decode cJ7_fill_53178 1 = .ok (.istore_n 2, 1) := by decide +kernel
theorem dJ7_fill_53178_2 : decode cJ7_fill_53178 2 = .ok (.aload_n 0, 1) := by decide +kernel
theorem dJ7_fill_53178_3 : decode cJ7_fill_53178 3 = .ok (.arraylength, 1) := by decide +kernel
theorem dJ7_fill_53178_4 : decode cJ7_fill_53178 4 = .ok (.istore_n 3, 1) := by decide +kernel
theorem dJ7_fill_53178_5 : decode cJ7_fill_53178 5 = .ok (.iload_n 2, 1) := by decide +kernel
theorem dJ7_fill_53178_6 : decode cJ7_fill_53178 6 = .ok (.iload_n 3, 1) := by decide +kernel
theorem dJ7_fill_53178_7 : decode cJ7_fill_53178 7 = .ok (.if_icmp .ge 13, 3) := by decide +kernel
theorem dJ7_fill_53178_10 : decode cJ7_fill_53178 10 = .ok (.aload_n 0, 1) := by decide +kernel
theorem dJ7_fill_53178_11 : decode cJ7_fill_53178 11 = .ok (.iload_n 2, 1) := by decide +kernel
theorem dJ7_fill_53178_12 : decode cJ7_fill_53178 12 = .ok (.iload_n 1, 1) := by decide +kernel
theorem dJ7_fill_53178_13 : decode cJ7_fill_53178 13 = .ok (.iastore, 1) := by decide +kernel
theorem dJ7_fill_53178_14 : decode cJ7_fill_53178 14 = .ok (.iinc 2 1, 3) := by decide +kernel
theorem dJ7_fill_53178_17 : decode cJ7_fill_53178 17 = .ok (.goto (-12), 3) := by decide +kernel
theorem dJ7_fill_53178_20 : decode cJ7_fill_53178 20 = .ok (.return_, 1) := by decide +kernel
