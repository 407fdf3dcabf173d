theorem dX8_toldAt_21 : decode cX8_toldAt 21 = .ok (.ifCond .ge 5, 3) := by decide +kernel
theorem dX8_toldAt_24 : decode cX8_toldAt 24 = .ok (.iload_n 3, 1) := by decide +kernel
theorem dX8_toldAt_25 : decode cX8_toldAt 25 = .ok (.ireturn, 1) := by decide +kernel
theorem dX8_toldAt_26 : decode cX8_toldAt 26 = .ok (.iinc 3 1, 3) := by decide +kernel
theorem dX8_toldAt_29 : decode cX8_toldAt 29 = .ok (.goto (-25), 3) := by decide +kernel
theorem dX8_toldAt_32 : decode cX8_toldAt 32 = .ok (.iconst (-1), 1) := by decide +kernel
theorem dX8_toldAt_33 : decode cX8_toldAt 33 = .ok (.ireturn, 1) := by decide +kernel
theorem dX8_find_0 : decode cX8_find 0 = .ok (.iload_n 1, 1) := by decide +kernel
theorem dX8_find_1 : decode cX8_find 1 = .ok (.istore_n 2, 1) := by decide +kernel
theorem dX8_find_2 : decode cX8_find 2 = .ok (.aload_n 0, 1) := by decide +kernel
theorem dX8_find_3 : decode cX8_find 3 = .ok (.getfield 38, 3) := by decide +kernel
theorem dX8_find_6 : decode cX8_find 6 = .ok (.iload_n 2, 1) := by decide +kernel
theorem dX8_find_7 : decode cX8_find 7 = .ok (.iaload, 1) := by decide +kernel
theorem dX8_find_8 : decode cX8_find 8 = .ok (.iload_n 2, 1) := by decide +kernel
theorem dX8_find_9 : decode cX8_find 9 = .ok (.if_icmp .eq 13, 3) := by decide +kernel
theorem dX8_find_12 : decode cX8_find 12 = .ok (.aload_n 0, 1) := by decide +kernel
theorem dX8_find_13 : decode cX8_find 13 = .ok (.getfield 38, 3) := by decide +kernel
theorem dX8_find_16 : decode cX8_find 16 = .ok (.iload_n 2, 1) := by decide +kernel
theorem dX8_find_17 : decode cX8_find 17 = .ok (.iaload, 1) := by decide +kernel
theorem dX8_find_18 : decode cX8_find 18 = .ok (.istore_n 2, 1) := by decide +kernel
theorem dX8_find_19 : decode cX8_find 19 = .ok (.goto (-17), 3) := by decide +kernel
theorem dX8_find_22 : decode cX8_find 22 = .ok (.iload_n 2, 1) := by decide +kernel
theorem dX8_find_23 : decode cX8_find 23 = .ok (.ireturn, 1) := by decide +kernel
theorem dX8_resolved_0 : decode cX8_resolved 0 = .ok (.iload_n 1, 1) := by decide +kernel
theorem dX8_resolved_1 : decode cX8_resolved 1 = .ok (.bipush 8, 2) := by decide +kernel
theorem dX8_resolved_3 : decode cX8_resolved 3 = .ok (.if_icmp .ge 5, 3) := by decide +kernel
theorem dX8_resolved_6 : decode cX8_resolved 6 = .ok (.iload_n 1, 1) := by decide +kernel
theorem dX8_resolved_7 : decode cX8_resolved 7 = .ok (.ireturn, 1) := by decide +kernel
theorem dX8_resolved_8 : decode cX8_resolved 8 = .ok (.aload_n 0, 1) := by decide +kernel
theorem dX8_resolved_9 : decode cX8_resolved 9 = .ok (.iload_n 1, 1) := by decide +kernel
theorem dX8_resolved_10 : decode cX8_resolved 10 = .ok (.bipush 8, 2) := by decide +kernel
theorem dX8_resolved_12 : decode cX8_resolved 12 = .ok (.isub, 1) := by decide +kernel
theorem dX8_resolved_13 : decode cX8_resolved 13 = .ok (.invokevirtual 62, 3) := by decide +kernel
theorem dX8_resolved_16 : decode cX8_resolved 16 = .ok (.istore_n 2, 1) := by decide +kernel
theorem dX8_resolved_17 : decode cX8_resolved 17 = .ok (.aload_n 0, 1) := by decide +kernel
theorem dX8_resolved_18 : decode cX8_resolved 18 = .ok (.getfield 41, 3) := by decide +kernel
theorem dX8_resolved_21 : decode cX8_resolved 21 = .ok (.iload_n 2, 1) := by decide +kernel
theorem dX8_resolved_22 : decode cX8_resolved 22 = .ok (.iaload, 1) := by decide +kernel
theorem dX8_resolved_23 : decode cX8_resolved 23 = .ok (.iconst (-1), 1) := by decide +kernel
theorem dX8_resolved_24 : decode cX8_resolved 24 = .ok (.if_icmp .ne 10, 3) := by decide +kernel
theorem dX8_resolved_27 : decode cX8_resolved 27 = .ok (.bipush 8, 2) := by decide +kernel
theorem dX8_resolved_29 : decode cX8_resolved 29 = .ok (.iload_n 2, 1) := by decide +kernel
theorem dX8_resolved_30 : decode cX8_resolved 30 = .ok (.iadd, 1) := by decide +kernel
theorem dX8_resolved_31 : decode cX8_resolved 31 = .ok (.goto 9, 3) := by decide +kernel
theorem dX8_resolved_34 : decode cX8_resolved 34 = .ok (.aload_n 0, 1) := by decide +kernel
theorem dX8_resolved_35 : decode cX8_resolved 35 = .ok (.getfield 41, 3) := by decide +kernel
theorem dX8_resolved_38 : decode cX8_resolved 38 = .ok (.iload_n 2, 1) := by decide +kernel
theorem dX8_resolved_39 : decode cX8_resolved 39 = .ok (.iaload, 1) := by decide +kernel
theorem dX8_resolved_40 : decode cX8_resolved 40 = .ok (.ireturn, 1) := by decide +kernel
theorem dX8_makesAlike_0 : decode cX8_makesAlike 0 = .ok (.aload_n 0, 1) := by decide +kernel
theorem dX8_makesAlike_1 : decode cX8_makesAlike 1 = .ok (.iload_n 1, 1) := by decide +kernel
theorem dX8_makesAlike_2 : decode cX8_makesAlike 2 = .ok (.invokevirtual 66, 3) := by decide +kernel
theorem dX8_makesAlike_5 : decode cX8_makesAlike 5 = .ok (.istore_n 3, 1) := by decide +kernel
theorem dX8_makesAlike_6 : decode cX8_makesAlike 6 = .ok (.aload_n 0, 1) := by decide +kernel
theorem dX8_makesAlike_7 : decode cX8_makesAlike 7 = .ok (.iload_n 2, 1) := by decide +kernel
theorem dX8_makesAlike_8 : decode cX8_makesAlike 8 = .ok (.invokevirtual 66, 3) := by decide +kernel
theorem dX8_makesAlike_11 : decode cX8_makesAlike 11 = .ok (.istore 4, 2) := by decide +kernel
theorem dX8_makesAlike_13 : decode cX8_makesAlike 13 = .ok (.iload_n 3, 1) := by decide +kernel
theorem dX8_makesAlike_14 : decode cX8_makesAlike 14 = .ok (.bipush 8, 2) := by decide +kernel
theorem dX8_makesAlike_16 : decode cX8_makesAlike 16 = .ok (.if_icmp .ge 22, 3) := by decide +kernel
theorem dX8_makesAlike_19 : decode cX8_makesAlike 19 = .ok (.iload 4, 2) := by decide +kernel
theorem dX8_makesAlike_21 : decode cX8_makesAlike 21 = .ok (.bipush 8, 2) := by decide +kernel
theorem dX8_makesAlike_23 : decode cX8_makesAlike 23 = .ok (.if_icmp .ge 15, 3) := by decide +kernel
theorem dX8_makesAlike_26 : decode cX8_makesAlike 26 = .ok (.iload_n 3, 1) := by decide +kernel
theorem dX8_makesAlike_27 : decode cX8_makesAlike 27 = .ok (.iload 4, 2) := by decide +kernel
theorem dX8_makesAlike_29 : decode cX8_makesAlike 29 = .ok (.if_icmp .ne 7, 3) := by decide +kernel
theorem dX8_makesAlike_32 : decode cX8_makesAlike 32 = .ok (.iconst 1, 1) := by decide +kernel
theorem dX8_makesAlike_33 : decode cX8_makesAlike 33 = .ok (.goto 4, 3) := by decide +kernel
theorem dX8_makesAlike_36 : decode cX8_makesAlike 36 = .ok (.iconst 0, 1) := by decide +kernel
theorem dX8_makesAlike_37 : decode cX8_makesAlike 37 = .ok (.ireturn, 1) := by decide +kernel
theorem dX8_makesAlike_38 : decode cX8_makesAlike 38 = .ok (.iload_n 3, 1) := by decide +kernel
theorem dX8_makesAlike_39 : decode cX8_makesAlike 39 = .ok (.bipush 8, 2) := by decide +kernel
theorem dX8_makesAlike_41 : decode cX8_makesAlike 41 = .ok (.if_icmp .ge 17, 3) := by decide +kernel
theorem dX8_makesAlike_44 : decode cX8_makesAlike 44 = .ok (.aload_n 0, 1) := by decide +kernel
theorem dX8_makesAlike_45 : decode cX8_makesAlike 45 = .ok (.getfield 41, 3) := by decide +kernel
theorem dX8_makesAlike_48 : decode cX8_makesAlike 48 = .ok (.iload 4, 2) := by decide +kernel
theorem dX8_makesAlike_50 : decode cX8_makesAlike 50 = .ok (.bipush 8, 2) := by decide +kernel
theorem dX8_makesAlike_52 : decode cX8_makesAlike 52 = .ok (.isub, 1) := by decide +kernel
theorem dX8_makesAlike_53 : decode cX8_makesAlike 53 = .ok (.iload_n 3, 1) := by decide +kernel
theorem dX8_makesAlike_54 : decode cX8_makesAlike 54 = .ok (.iastore, 1) := by decide +kernel
theorem dX8_makesAlike_55 : decode cX8_makesAlike 55 = .ok (.goto 38, 3) := by decide +kernel
theorem dX8_makesAlike_58 : decode cX8_makesAlike 58 = .ok (.iload 4, 2) := by decide +kernel
theorem dX8_makesAlike_60 : decode cX8_makesAlike 60 = .ok (.bipush 8, 2) := by decide +kernel
theorem dX8_makesAlike_62 : decode cX8_makesAlike 62 = .ok (.if_icmp .ge 17, 3) := by decide +kernel
theorem dX8_makesAlike_65 : decode cX8_makesAlike 65 = .ok (.aload_n 0, 1) := by decide +kernel
theorem dX8_makesAlike_66 : decode cX8_makesAlike 66 = .ok (.getfield 41, 3) := by decide +kernel
theorem dX8_makesAlike_69 : decode cX8_makesAlike 69 = .ok (.iload_n 3, 1) := by decide +kernel
theorem dX8_makesAlike_70 : decode cX8_makesAlike 70 = .ok (.bipush 8, 2) := by decide +kernel
theorem dX8_makesAlike_72 : decode cX8_makesAlike 72 = .ok (.isub, 1) := by decide +kernel
theorem dX8_makesAlike_73 : decode cX8_makesAlike 73 = .ok (.iload 4, 2) := by decide +kernel
theorem dX8_makesAlike_75 : decode cX8_makesAlike 75 = .ok (.iastore, 1) := by decide +kernel
theorem dX8_makesAlike_76 : decode cX8_makesAlike 76 = .ok (.goto 17, 3) := by decide +kernel
theorem dX8_makesAlike_79 : decode cX8_makesAlike 79 = .ok (.aload_n 0, 1) := by decide +kernel
theorem dX8_makesAlike_80 : decode cX8_makesAlike 80 = .ok (.getfield 38, 3) := by decide +kernel
theorem dX8_makesAlike_83 : decode cX8_makesAlike 83 = .ok (.iload_n 3, 1) := by decide +kernel
theorem dX8_makesAlike_84 : decode cX8_makesAlike 84 = .ok (.bipush 8, 2) := by decide +kernel
theorem dX8_makesAlike_86 : decode cX8_makesAlike 86 = .ok (.isub, 1) := by decide +kernel
theorem dX8_makesAlike_87 : decode cX8_makesAlike 87 = .ok (.iload 4, 2) := by decide +kernel
theorem dX8_makesAlike_89 : decode cX8_makesAlike 89 = .ok (.bipush 8, 2) := by decide +kernel
theorem dX8_makesAlike_91 : decode cX8_makesAlike 91 = .ok (.isub, 1) := by decide +kernel
theorem dX8_makesAlike_92 : decode cX8_makesAlike 92 = .ok (.iastore, 1) := by decide +kernel
theorem dX8_makesAlike_93 : decode cX8_makesAlike 93 = .ok (.iconst 1, 1) := by decide +kernel
theorem dX8_makesAlike_94 : decode cX8_makesAlike 94 = .ok (.ireturn, 1) := by decide +kernel
theorem dX8_term_0 : decode cX8_term 0 = .ok (.iload_n 0, 1) := by decide +kernel
theorem dX8_term_1 : decode cX8_term 1 = .ok (.iconst 4, 1) := by decide +kernel
theorem dX8_term_2 : decode cX8_term 2 = .ok (.if_icmp .ge 7, 3) := by decide +kernel
theorem dX8_term_5 : decode cX8_term 5 = .ok (.iload_n 0, 1) := by decide +kernel
theorem dX8_term_6 : decode cX8_term 6 = .ok (.goto 11, 3) := by decide +kernel
theorem dX8_term_9 : decode cX8_term 9 = .ok (.bipush 8, 2) := by decide +kernel
theorem dX8_term_11 : decode cX8_term 11 = .ok (.iload_n 1, 1) := by decide +kernel
theorem dX8_term_12 : decode cX8_term 12 = .ok (.iadd, 1) := by decide +kernel
theorem dX8_term_13 : decode cX8_term 13 = .ok (.iload_n 0, 1) := by decide +kernel
theorem dX8_term_14 : decode cX8_term 14 = .ok (.iadd, 1) := by decide +kernel
theorem dX8_term_15 : decode cX8_term 15 = .ok (.iconst 4, 1) := by decide +kernel
theorem dX8_term_16 : decode cX8_term 16 = .ok (.isub, 1) := by decide +kernel
theorem dX8_term_17 : decode cX8_term 17 = .ok (.ireturn, 1) := by decide +kernel
theorem dX8_isAlike_0 : decode cX8_isAlike 0 = .ok (.aload_n 0, 1) := by decide +kernel
theorem dX8_isAlike_1 : decode cX8_isAlike 1 = .ok (.iload_n 1, 1) := by decide +kernel
theorem dX8_isAlike_2 : decode cX8_isAlike 2 = .ok (.bipush 8, 2) := by decide +kernel
theorem dX8_isAlike_4 : decode cX8_isAlike 4 = .ok (.idiv, 1) := by decide +kernel
theorem dX8_isAlike_5 : decode cX8_isAlike 5 = .ok (.bipush 8, 2) := by decide +kernel
theorem dX8_isAlike_7 : decode cX8_isAlike 7 = .ok (.irem, 1) := by decide +kernel
theorem dX8_isAlike_8 : decode cX8_isAlike 8 = .ok (.iconst 0, 1) := by decide +kernel
theorem dX8_isAlike_9 : decode cX8_isAlike 9 = .ok (.invokestatic 69, 3) := by decide +kernel
theorem dX8_isAlike_12 : decode cX8_isAlike 12 = .ok (.iload_n 2, 1) := by decide +kernel
theorem dX8_isAlike_13 : decode cX8_isAlike 13 = .ok (.bipush 8, 2) := by decide +kernel
theorem dX8_isAlike_15 : decode cX8_isAlike 15 = .ok (.idiv, 1) := by decide +kernel
theorem dX8_isAlike_16 : decode cX8_isAlike 16 = .ok (.bipush 8, 2) := by decide +kernel
theorem dX8_isAlike_18 : decode cX8_isAlike 18 = .ok (.irem, 1) := by decide +kernel
theorem dX8_isAlike_19 : decode cX8_isAlike 19 = .ok (.iload_n 3, 1) := by decide +kernel
theorem dX8_isAlike_20 : decode cX8_isAlike 20 = .ok (.invokestatic 69, 3) := by decide +kernel
theorem dX8_isAlike_23 : decode cX8_isAlike 23 = .ok (.invokevirtual 73, 3) := by decide +kernel
theorem dX8_isAlike_26 : decode cX8_isAlike 26 = .ok (.ifCond .eq 30, 3) := by decide +kernel
theorem dX8_isAlike_29 : decode cX8_isAlike 29 = .ok (.aload_n 0, 1) := by decide +kernel
theorem dX8_isAlike_30 : decode cX8_isAlike 30 = .ok (.iload_n 1, 1) := by decide +kernel
theorem dX8_isAlike_31 : decode cX8_isAlike 31 = .ok (.bipush 8, 2) := by decide +kernel
theorem dX8_isAlike_33 : decode cX8_isAlike 33 = .ok (.irem, 1) := by decide +kernel
theorem dX8_isAlike_34 : decode cX8_isAlike 34 = .ok (.iconst 0, 1) := by decide +kernel
theorem dX8_isAlike_35 : decode cX8_isAlike 35 = .ok (.invokestatic 69, 3) := by decide +kernel
theorem dX8_isAlike_38 : decode cX8_isAlike 38 = .ok (.iload_n 2, 1) := by decide +kernel
theorem dX8_isAlike_39 : decode cX8_isAlike 39 = .ok (.bipush 8, 2) := by decide +kernel
theorem dX8_isAlike_41 : decode cX8_isAlike 41 = .ok (.irem, 1) := by decide +kernel
theorem dX8_isAlike_42 : decode cX8_isAlike 42 = .ok (.iload_n 3, 1) := by decide +kernel
theorem dX8_isAlike_43 : decode cX8_isAlike 43 = .ok (.invokestatic 69, 3) := by decide +kernel
theorem dX8_isAlike_46 : decode cX8_isAlike 46 = .ok (.invokevirtual 73, 3) := by decide +kernel
theorem dX8_isAlike_49 : decode cX8_isAlike 49 = .ok (.ifCond .eq 7, 3) := by decide +kernel
theorem dX8_isAlike_52 : decode cX8_isAlike 52 = .ok (.iconst 1, 1) := by decide +kernel
theorem dX8_isAlike_53 : decode cX8_isAlike 53 = .ok (.goto 4, 3) := by decide +kernel
theorem dX8_isAlike_56 : decode cX8_isAlike 56 = .ok (.iconst 0, 1) := by decide +kernel
theorem dX8_isAlike_57 : decode cX8_isAlike 57 = .ok (.ireturn, 1) := by decide +kernel
theorem dX8_opensPlaces_0 : decode cX8_opensPlaces 0 = .ok (.iconst 0, 1) := by decide +kernel
theorem dX8_opensPlaces_1 : decode cX8_opensPlaces 1 = .ok (.istore_n 1, 1) := by decide +kernel
theorem dX8_opensPlaces_2 : decode cX8_opensPlaces 2 = .ok (.iload_n 1, 1) := by decide +kernel
theorem dX8_opensPlaces_3 : decode cX8_opensPlaces 3 = .ok (.bipush 8, 2) := by decide +kernel
theorem dX8_opensPlaces_5 : decode cX8_opensPlaces 5 = .ok (.if_icmp .ge 23, 3) := by decide +kernel
theorem dX8_opensPlaces_8 : decode cX8_opensPlaces 8 = .ok (.aload_n 0, 1) := by decide +kernel
theorem dX8_opensPlaces_9 : decode cX8_opensPlaces 9 = .ok (.getfield 38, 3) := by decide +kernel
theorem dX8_opensPlaces_12 : decode cX8_opensPlaces 12 = .ok (.iload_n 1, 1) := by decide +kernel
theorem dX8_opensPlaces_13 : decode cX8_opensPlaces 13 = .ok (.iload_n 1, 1) := by decide +kernel
theorem dX8_opensPlaces_14 : decode cX8_opensPlaces 14 = .ok (.iastore, 1) := by decide +kernel
theorem dX8_opensPlaces_15 : decode cX8_opensPlaces 15 = .ok (.aload_n 0, 1) := by decide +kernel
theorem dX8_opensPlaces_16 : decode cX8_opensPlaces 16 = .ok (.getfield 41, 3) := by decide +kernel
theorem dX8_opensPlaces_19 : decode cX8_opensPlaces 19 = .ok (.iload_n 1, 1) := by decide +kernel
theorem dX8_opensPlaces_20 : decode cX8_opensPlaces 20 = .ok (.iconst (-1), 1) := by decide +kernel
theorem dX8_opensPlaces_21 : decode cX8_opensPlaces 21 = .ok (.iastore, 1) := by decide +kernel
theorem dX8_opensPlaces_22 : decode cX8_opensPlaces 22 = .ok (.iinc 1 1, 3) := by decide +kernel
theorem dX8_opensPlaces_25 : decode cX8_opensPlaces 25 = .ok (.goto (-23), 3) := by decide +kernel
theorem dX8_opensPlaces_28 : decode cX8_opensPlaces 28 = .ok (.return_, 1) := by decide +kernel
theorem dX8_result_0 : decode cX8_result 0 = .ok (.aload_n 0, 1) := by decide +kernel
theorem dX8_result_1 : decode cX8_result 1 = .ok (.iload_n 1, 1) := by decide +kernel
theorem dX8_result_2 : decode cX8_result 2 = .ok (.bipush 8, 2) := by decide +kernel
theorem dX8_result_4 : decode cX8_result 4 = .ok (.idiv, 1) := by decide +kernel
theorem dX8_result_5 : decode cX8_result 5 = .ok (.bipush 8, 2) := by decide +kernel
theorem dX8_result_7 : decode cX8_result 7 = .ok (.irem, 1) := by decide +kernel
theorem dX8_result_8 : decode cX8_result 8 = .ok (.iconst 0, 1) := by decide +kernel
theorem dX8_result_9 : decode cX8_result 9 = .ok (.invokestatic 69, 3) := by decide +kernel
theorem dX8_result_12 : decode cX8_result 12 = .ok (.invokevirtual 66, 3) := by decide +kernel
theorem dX8_result_15 : decode cX8_result 15 = .ok (.istore_n 2, 1) := by decide +kernel
theorem dX8_result_16 : decode cX8_result 16 = .ok (.aload_n 0, 1) := by decide +kernel
theorem dX8_result_17 : decode cX8_result 17 = .ok (.iload_n 1, 1) := by decide +kernel
theorem dX8_result_18 : decode cX8_result 18 = .ok (.bipush 8, 2) := by decide +kernel
theorem dX8_result_20 : decode cX8_result 20 = .ok (.irem, 1) := by decide +kernel
theorem dX8_result_21 : decode cX8_result 21 = .ok (.iconst 0, 1) := by decide +kernel
theorem dX8_result_22 : decode cX8_result 22 = .ok (.invokestatic 69, 3) := by decide +kernel
theorem dX8_result_25 : decode cX8_result 25 = .ok (.invokevirtual 66, 3) := by decide +kernel
theorem dX8_result_28 : decode cX8_result 28 = .ok (.istore_n 3, 1) := by decide +kernel
theorem dX8_result_29 : decode cX8_result 29 = .ok (.iload_n 3, 1) := by decide +kernel
theorem dX8_result_30 : decode cX8_result 30 = .ok (.bipush 8, 2) := by decide +kernel
theorem dX8_result_32 : decode cX8_result 32 = .ok (.if_icmp .ge 7, 3) := by decide +kernel
theorem dX8_result_35 : decode cX8_result 35 = .ok (.iload_n 3, 1) := by decide +kernel
theorem dX8_result_36 : decode cX8_result 36 = .ok (.goto 19, 3) := by decide +kernel
theorem dX8_result_39 : decode cX8_result 39 = .ok (.iload_n 2, 1) := by decide +kernel
theorem dX8_result_40 : decode cX8_result 40 = .ok (.bipush 8, 2) := by decide +kernel
theorem dX8_result_42 : decode cX8_result 42 = .ok (.if_icmp .lt 8, 3) := by decide +kernel
theorem dX8_result_45 : decode cX8_result 45 = .ok (.iload_n 2, 1) := by decide +kernel
theorem dX8_result_46 : decode cX8_result 46 = .ok (.iload_n 3, 1) := by decide +kernel
theorem dX8_result_47 : decode cX8_result 47 = .ok (.if_icmp .ne 7, 3) := by decide +kernel
theorem dX8_result_50 : decode cX8_result 50 = .ok (.iconst 4, 1) := by decide +kernel
theorem dX8_result_51 : decode cX8_result 51 = .ok (.goto 4, 3) := by decide +kernel
theorem dX8_result_54 : decode cX8_result 54 = .ok (.iconst 5, 1) := by decide +kernel
theorem dX8_result_55 : decode cX8_result 55 = .ok (.istore 4, 2) := by decide +kernel
theorem dX8_result_57 : decode cX8_result 57 = .ok (.iload_n 1, 1) := by decide +kernel
theorem dX8_result_58 : decode cX8_result 58 = .ok (.bipush 64, 2) := by decide +kernel
theorem dX8_result_60 : decode cX8_result 60 = .ok (.idiv, 1) := by decide +kernel
theorem dX8_result_61 : decode cX8_result 61 = .ok (.bipush 64, 2) := by decide +kernel
theorem dX8_result_63 : decode cX8_result 63 = .ok (.imul, 1) := by decide +kernel
theorem dX8_result_64 : decode cX8_result 64 = .ok (.bipush 8, 2) := by decide +kernel
theorem dX8_result_66 : decode cX8_result 66 = .ok (.iload_n 2, 1) := by decide +kernel
theorem dX8_result_67 : decode cX8_result 67 = .ok (.bipush 8, 2) := by decide +kernel
theorem dX8_result_69 : decode cX8_result 69 = .ok (.if_icmp .ge 7, 3) := by decide +kernel
theorem dX8_result_72 : decode cX8_result 72 = .ok (.iload_n 2, 1) := by decide +kernel
theorem dX8_result_73 : decode cX8_result 73 = .ok (.goto 4, 3) := by decide +kernel
theorem dX8_result_76 : decode cX8_result 76 = .ok (.iconst 4, 1) := by decide +kernel
theorem dX8_result_77 : decode cX8_result 77 = .ok (.imul, 1) := by decide +kernel
theorem dX8_result_78 : decode cX8_result 78 = .ok (.iadd, 1) := by decide +kernel
theorem dX8_result_79 : decode cX8_result 79 = .ok (.iload 4, 2) := by decide +kernel
theorem dX8_result_81 : decode cX8_result 81 = .ok (.iadd, 1) := by decide +kernel
theorem dX8_result_82 : decode cX8_result 82 = .ok (.ireturn, 1) := by decide +kernel
theorem dX8_hasStronger_0 : decode cX8_hasStronger 0 = .ok (.iload_n 1, 1) := by decide +kernel
theorem dX8_hasStronger_1 : decode cX8_hasStronger 1 = .ok (.bipush 64, 2) := by decide +kernel
theorem dX8_hasStronger_3 : decode cX8_hasStronger 3 = .ok (.idiv, 1) := by decide +kernel
theorem dX8_hasStronger_4 : decode cX8_hasStronger 4 = .ok (.bipush 64, 2) := by decide +kernel
theorem dX8_hasStronger_6 : decode cX8_hasStronger 6 = .ok (.imul, 1) := by decide +kernel
theorem dX8_hasStronger_7 : decode cX8_hasStronger 7 = .ok (.istore_n 2, 1) := by decide +kernel
theorem dX8_hasStronger_8 : decode cX8_hasStronger 8 = .ok (.iload_n 2, 1) := by decide +kernel
theorem dX8_hasStronger_9 : decode cX8_hasStronger 9 = .ok (.iload_n 1, 1) := by decide +kernel
theorem dX8_hasStronger_10 : decode cX8_hasStronger 10 = .ok (.bipush 64, 2) := by decide +kernel
theorem dX8_hasStronger_12 : decode cX8_hasStronger 12 = .ok (.idiv, 1) := by decide +kernel
theorem dX8_hasStronger_13 : decode cX8_hasStronger 13 = .ok (.bipush 64, 2) := by decide +kernel
theorem dX8_hasStronger_15 : decode cX8_hasStronger 15 = .ok (.imul, 1) := by decide +kernel
theorem dX8_hasStronger_16 : decode cX8_hasStronger 16 = .ok (.bipush 64, 2) := by decide +kernel
theorem dX8_hasStronger_18 : decode cX8_hasStronger 18 = .ok (.iadd, 1) := by decide +kernel
theorem dX8_hasStronger_19 : decode cX8_hasStronger 19 = .ok (.if_icmp .ge 28, 3) := by decide +kernel
theorem dX8_hasStronger_22 : decode cX8_hasStronger 22 = .ok (.aload_n 0, 1) := by decide +kernel
theorem dX8_hasStronger_23 : decode cX8_hasStronger 23 = .ok (.getfield 19, 3) := by decide +kernel
theorem dX8_hasStronger_26 : decode cX8_hasStronger 26 = .ok (.iload_n 2, 1) := by decide +kernel
theorem dX8_hasStronger_27 : decode cX8_hasStronger 27 = .ok (.baload, 1) := by decide +kernel
theorem dX8_hasStronger_28 : decode cX8_hasStronger 28 = .ok (.ifCond .eq 13, 3) := by decide +kernel
theorem dX8_hasStronger_31 : decode cX8_hasStronger 31 = .ok (.iload_n 2, 1) := by decide +kernel
theorem dX8_hasStronger_32 : decode cX8_hasStronger 32 = .ok (.iload_n 1, 1) := by decide +kernel
theorem dX8_hasStronger_33 : decode cX8_hasStronger 33 = .ok (.invokestatic 77, 3) := by decide +kernel
theorem dX8_hasStronger_36 : decode cX8_hasStronger 36 = .ok (.ifCond .eq 5, 3) := by decide +kernel
theorem dX8_hasStronger_39 : decode cX8_hasStronger 39 = .ok (.iconst 1, 1) := by decide +kernel
theorem dX8_hasStronger_40 : decode cX8_hasStronger 40 = .ok (.ireturn, 1) := by decide +kernel
theorem dX8_hasStronger_41 : decode cX8_hasStronger 41 = .ok (.iinc 2 1, 3) := by decide +kernel
theorem dX8_hasStronger_44 : decode cX8_hasStronger 44 = .ok (.goto (-36), 3) := by decide +kernel
theorem dX8_hasStronger_47 : decode cX8_hasStronger 47 = .ok (.iconst 0, 1) := by decide +kernel
theorem dX8_hasStronger_48 : decode cX8_hasStronger 48 = .ok (.ireturn, 1) := by decide +kernel
theorem dX8_drops_0 : decode cX8_drops 0 = .ok (.iconst 0, 1) := by decide +kernel
theorem dX8_drops_1 : decode cX8_drops 1 = .ok (.istore_n 1, 1) := by decide +kernel
theorem dX8_drops_2 : decode cX8_drops 2 = .ok (.iload_n 1, 1) := by decide +kernel
theorem dX8_drops_3 : decode cX8_drops 3 = .ok (.sipush 256, 3) := by decide +kernel
theorem dX8_drops_6 : decode cX8_drops 6 = .ok (.if_icmp .ge 37, 3) := by decide +kernel
theorem dX8_drops_9 : decode cX8_drops 9 = .ok (.aload_n 0, 1) := by decide +kernel
theorem dX8_drops_10 : decode cX8_drops 10 = .ok (.getfield 29, 3) := by decide +kernel
theorem dX8_drops_13 : decode cX8_drops 13 = .ok (.iload_n 1, 1) := by decide +kernel
theorem dX8_drops_14 : decode cX8_drops 14 = .ok (.aload_n 0, 1) := by decide +kernel
theorem dX8_drops_15 : decode cX8_drops 15 = .ok (.getfield 19, 3) := by decide +kernel
theorem dX8_drops_18 : decode cX8_drops 18 = .ok (.iload_n 1, 1) := by decide +kernel
theorem dX8_drops_19 : decode cX8_drops 19 = .ok (.baload, 1) := by decide +kernel
theorem dX8_drops_20 : decode cX8_drops 20 = .ok (.ifCond .eq 15, 3) := by decide +kernel
theorem dX8_drops_23 : decode cX8_drops 23 = .ok (.aload_n 0, 1) := by decide +kernel
theorem dX8_drops_24 : decode cX8_drops 24 = .ok (.iload_n 1, 1) := by decide +kernel
theorem dX8_drops_25 : decode cX8_drops 25 = .ok (.invokevirtual 80, 3) := by decide +kernel
theorem dX8_drops_28 : decode cX8_drops 28 = .ok (.ifCond .eq 7, 3) := by decide +kernel
theorem dX8_drops_31 : decode cX8_drops 31 = .ok (.iconst 1, 1) := by decide +kernel
theorem dX8_drops_32 : decode cX8_drops 32 = .ok (.goto 4, 3) := by decide +kernel
theorem dX8_drops_35 : decode cX8_drops 35 = .ok (.iconst 0, 1) := by decide +kernel
theorem dX8_drops_36 : decode cX8_drops 36 = .ok (.bastore, 1) := by decide +kernel
theorem dX8_drops_37 : decode cX8_drops 37 = .ok (.iinc 1 1, 3) := by decide +kernel
theorem dX8_drops_40 : decode cX8_drops 40 = .ok (.goto (-38), 3) := by decide +kernel
theorem dX8_drops_43 : decode cX8_drops 43 = .ok (.iconst 0, 1) := by decide +kernel
theorem dX8_drops_44 : decode cX8_drops 44 = .ok (.istore_n 1, 1) := by decide +kernel
theorem dX8_drops_45 : decode cX8_drops 45 = .ok (.iload_n 1, 1) := by decide +kernel
theorem dX8_drops_46 : decode cX8_drops 46 = .ok (.sipush 256, 3) := by decide +kernel
theorem dX8_drops_49 : decode cX8_drops 49 = .ok (.if_icmp .ge 45, 3) := by decide +kernel
theorem dX8_drops_52 : decode cX8_drops 52 = .ok (.aload_n 0, 1) := by decide +kernel
theorem dX8_drops_53 : decode cX8_drops 53 = .ok (.getfield 29, 3) := by decide +kernel
theorem dX8_drops_56 : decode cX8_drops 56 = .ok (.iload_n 1, 1) := by decide +kernel
theorem dX8_drops_57 : decode cX8_drops 57 = .ok (.baload, 1) := by decide +kernel
theorem dX8_drops_58 : decode cX8_drops 58 = .ok (.ifCond .eq 30, 3) := by decide +kernel
theorem dX8_drops_61 : decode cX8_drops 61 = .ok (.aload_n 0, 1) := by decide +kernel
theorem dX8_drops_62 : decode cX8_drops 62 = .ok (.getfield 19, 3) := by decide +kernel
theorem dX8_drops_65 : decode cX8_drops 65 = .ok (.iload_n 1, 1) := by decide +kernel
theorem dX8_drops_66 : decode cX8_drops 66 = .ok (.iconst 0, 1) := by decide +kernel
theorem dX8_drops_67 : decode cX8_drops 67 = .ok (.bastore, 1) := by decide +kernel
theorem dX8_drops_68 : decode cX8_drops 68 = .ok (.aload_n 0, 1) := by decide +kernel
theorem dX8_drops_69 : decode cX8_drops 69 = .ok (.dup, 1) := by decide +kernel
theorem dX8_drops_70 : decode cX8_drops 70 = .ok (.getfield 83, 3) := by decide +kernel
theorem dX8_drops_73 : decode cX8_drops 73 = .ok (.iconst 1, 1) := by decide +kernel
theorem dX8_drops_74 : decode cX8_drops 74 = .ok (.iadd, 1) := by decide +kernel
theorem dX8_drops_75 : decode cX8_drops 75 = .ok (.putfield 83, 3) := by decide +kernel
theorem dX8_drops_78 : decode cX8_drops 78 = .ok (.aload_n 0, 1) := by decide +kernel
theorem dX8_drops_79 : decode cX8_drops 79 = .ok (.dup, 1) := by decide +kernel
theorem dX8_drops_80 : decode cX8_drops 80 = .ok (.getfield 86, 3) := by decide +kernel
theorem dX8_drops_83 : decode cX8_drops 83 = .ok (.iconst 1, 1) := by decide +kernel
theorem dX8_drops_84 : decode cX8_drops 84 = .ok (.isub, 1) := by decide +kernel
theorem dX8_drops_85 : decode cX8_drops 85 = .ok (.putfield 86, 3) := by decide +kernel
theorem dX8_drops_88 : decode cX8_drops 88 = .ok (.iinc 1 1, 3) := by decide +kernel
theorem dX8_drops_91 : decode cX8_drops 91 = .ok (.goto (-46), 3) := by decide +kernel
theorem dX8_drops_94 : decode cX8_drops 94 = .ok (.return_, 1) := by decide +kernel
theorem dX8_comes_0 : decode cX8_comes 0 = .ok (.aload_n 0, 1) := by decide +kernel
theorem dX8_comes_1 : decode cX8_comes 1 = .ok (.dup, 1) := by decide +kernel
theorem dX8_comes_2 : decode cX8_comes 2 = .ok (.getfield 89, 3) := by decide +kernel
theorem dX8_comes_5 : decode cX8_comes 5 = .ok (.iconst 1, 1) := by decide +kernel
theorem dX8_comes_6 : decode cX8_comes 6 = .ok (.iadd, 1) := by decide +kernel
theorem dX8_comes_7 : decode cX8_comes 7 = .ok (.putfield 89, 3) := by decide +kernel
theorem dX8_comes_10 : decode cX8_comes 10 = .ok (.aload_n 0, 1) := by decide +kernel
theorem dX8_comes_11 : decode cX8_comes 11 = .ok (.aload_n 0, 1) := by decide +kernel
theorem dX8_comes_12 : decode cX8_comes 12 = .ok (.getfield 7, 3) := by decide +kernel
theorem dX8_comes_15 : decode cX8_comes 15 = .ok (.sipush 257, 3) := by decide +kernel
theorem dX8_comes_18 : decode cX8_comes 18 = .ok (.iconst 3, 1) := by decide +kernel
theorem dX8_comes_19 : decode cX8_comes 19 = .ok (.iload_n 1, 1) := by decide +kernel
theorem dX8_comes_20 : decode cX8_comes 20 = .ok (.imul, 1) := by decide +kernel
theorem dX8_comes_21 : decode cX8_comes 21 = .ok (.iadd, 1) := by decide +kernel
theorem dX8_comes_22 : decode cX8_comes 22 = .ok (.iaload, 1) := by decide +kernel
theorem dX8_comes_23 : decode cX8_comes 23 = .ok (.invokevirtual 92, 3) := by decide +kernel
theorem dX8_comes_26 : decode cX8_comes 26 = .ok (.istore_n 2, 1) := by decide +kernel
theorem dX8_comes_27 : decode cX8_comes 27 = .ok (.aload_n 0, 1) := by decide +kernel
theorem dX8_comes_28 : decode cX8_comes 28 = .ok (.getfield 19, 3) := by decide +kernel
theorem dX8_comes_31 : decode cX8_comes 31 = .ok (.iload_n 2, 1) := by decide +kernel
theorem dX8_comes_32 : decode cX8_comes 32 = .ok (.baload, 1) := by decide +kernel
theorem dX8_comes_33 : decode cX8_comes 33 = .ok (.ifCond .ne 34, 3) := by decide +kernel
theorem dX8_comes_36 : decode cX8_comes 36 = .ok (.aload_n 0, 1) := by decide +kernel
theorem dX8_comes_37 : decode cX8_comes 37 = .ok (.getfield 29, 3) := by decide +kernel
theorem dX8_comes_40 : decode cX8_comes 40 = .ok (.iload_n 2, 1) := by decide +kernel
theorem dX8_comes_41 : decode cX8_comes 41 = .ok (.baload, 1) := by decide +kernel
theorem dX8_comes_42 : decode cX8_comes 42 = .ok (.ifCond .ne 25, 3) := by decide +kernel
theorem dX8_comes_45 : decode cX8_comes 45 = .ok (.aload_n 0, 1) := by decide +kernel
theorem dX8_comes_46 : decode cX8_comes 46 = .ok (.iload_n 2, 1) := by decide +kernel
theorem dX8_comes_47 : decode cX8_comes 47 = .ok (.invokevirtual 80, 3) := by decide +kernel
theorem dX8_comes_50 : decode cX8_comes 50 = .ok (.ifCond .ne 17, 3) := by decide +kernel
theorem dX8_comes_53 : decode cX8_comes 53 = .ok (.aload_n 0, 1) := by decide +kernel
theorem dX8_comes_54 : decode cX8_comes 54 = .ok (.getfield 29, 3) := by decide +kernel
theorem dX8_comes_57 : decode cX8_comes 57 = .ok (.iload_n 2, 1) := by decide +kernel
theorem dX8_comes_58 : decode cX8_comes 58 = .ok (.iconst 1, 1) := by decide +kernel
theorem dX8_comes_59 : decode cX8_comes 59 = .ok (.bastore, 1) := by decide +kernel
theorem dX8_comes_60 : decode cX8_comes 60 = .ok (.aload_n 0, 1) := by decide +kernel
theorem dX8_comes_61 : decode cX8_comes 61 = .ok (.getfield 32, 3) := by decide +kernel
theorem dX8_comes_64 : decode cX8_comes 64 = .ok (.iload_n 2, 1) := by decide +kernel
theorem dX8_comes_65 : decode cX8_comes 65 = .ok (.iload_n 1, 1) := by decide +kernel
theorem dX8_comes_66 : decode cX8_comes 66 = .ok (.iastore, 1) := by decide +kernel
theorem dX8_comes_67 : decode cX8_comes 67 = .ok (.return_, 1) := by decide +kernel
theorem dX8_tries_0 : decode cX8_tries 0 = .ok (.aload_n 0, 1) := by decide +kernel
theorem dX8_tries_1 : decode cX8_tries 1 = .ok (.getfield 7, 3) := by decide +kernel
theorem dX8_tries_4 : decode cX8_tries 4 = .ok (.sipush 257, 3) := by decide +kernel
theorem dX8_tries_7 : decode cX8_tries 7 = .ok (.iconst 3, 1) := by decide +kernel
theorem dX8_tries_8 : decode cX8_tries 8 = .ok (.iload_n 1, 1) := by decide +kernel
theorem dX8_tries_9 : decode cX8_tries 9 = .ok (.imul, 1) := by decide +kernel
theorem dX8_tries_10 : decode cX8_tries 10 = .ok (.iadd, 1) := by decide +kernel
theorem dX8_tries_11 : decode cX8_tries 11 = .ok (.iconst 1, 1) := by decide +kernel
theorem dX8_tries_12 : decode cX8_tries 12 = .ok (.iadd, 1) := by decide +kernel
theorem dX8_tries_13 : decode cX8_tries 13 = .ok (.iaload, 1) := by decide +kernel
theorem dX8_tries_14 : decode cX8_tries 14 = .ok (.istore_n 2, 1) := by decide +kernel
theorem dX8_tries_15 : decode cX8_tries 15 = .ok (.aload_n 0, 1) := by decide +kernel
theorem dX8_tries_16 : decode cX8_tries 16 = .ok (.getfield 7, 3) := by decide +kernel
theorem dX8_tries_19 : decode cX8_tries 19 = .ok (.sipush 257, 3) := by decide +kernel
theorem dX8_tries_22 : decode cX8_tries 22 = .ok (.iconst 3, 1) := by decide +kernel
theorem dX8_tries_23 : decode cX8_tries 23 = .ok (.iload_n 1, 1) := by decide +kernel
theorem dX8_tries_24 : decode cX8_tries 24 = .ok (.imul, 1) := by decide +kernel
theorem dX8_tries_25 : decode cX8_tries 25 = .ok (.iadd, 1) := by decide +kernel
theorem dX8_tries_26 : decode cX8_tries 26 = .ok (.iconst 2, 1) := by decide +kernel
theorem dX8_tries_27 : decode cX8_tries 27 = .ok (.iadd, 1) := by decide +kernel
theorem dX8_tries_28 : decode cX8_tries 28 = .ok (.iaload, 1) := by decide +kernel
theorem dX8_tries_29 : decode cX8_tries 29 = .ok (.istore_n 3, 1) := by decide +kernel
theorem dX8_tries_30 : decode cX8_tries 30 = .ok (.iload_n 2, 1) := by decide +kernel
theorem dX8_tries_31 : decode cX8_tries 31 = .ok (.bipush 64, 2) := by decide +kernel
theorem dX8_tries_33 : decode cX8_tries 33 = .ok (.idiv, 1) := by decide +kernel
theorem dX8_tries_34 : decode cX8_tries 34 = .ok (.bipush 64, 2) := by decide +kernel
theorem dX8_tries_36 : decode cX8_tries 36 = .ok (.imul, 1) := by decide +kernel
theorem dX8_tries_37 : decode cX8_tries 37 = .ok (.istore 4, 2) := by decide +kernel
theorem dX8_tries_39 : decode cX8_tries 39 = .ok (.iload 4, 2) := by decide +kernel
theorem dX8_tries_41 : decode cX8_tries 41 = .ok (.iload_n 2, 1) := by decide +kernel
theorem dX8_tries_42 : decode cX8_tries 42 = .ok (.bipush 64, 2) := by decide +kernel
theorem dX8_tries_44 : decode cX8_tries 44 = .ok (.idiv, 1) := by decide +kernel
theorem dX8_tries_45 : decode cX8_tries 45 = .ok (.bipush 64, 2) := by decide +kernel
theorem dX8_tries_47 : decode cX8_tries 47 = .ok (.imul, 1) := by decide +kernel
theorem dX8_tries_48 : decode cX8_tries 48 = .ok (.bipush 64, 2) := by decide +kernel
theorem dX8_tries_50 : decode cX8_tries 50 = .ok (.iadd, 1) := by decide +kernel
theorem dX8_tries_51 : decode cX8_tries 51 = .ok (.if_icmp .ge 66, 3) := by decide +kernel
theorem dX8_tries_54 : decode cX8_tries 54 = .ok (.aload_n 0, 1) := by decide +kernel
theorem dX8_tries_55 : decode cX8_tries 55 = .ok (.getfield 19, 3) := by decide +kernel
theorem dX8_tries_58 : decode cX8_tries 58 = .ok (.iload 4, 2) := by decide +kernel
theorem dX8_tries_60 : decode cX8_tries 60 = .ok (.baload, 1) := by decide +kernel
theorem dX8_tries_61 : decode cX8_tries 61 = .ok (.ifCond .eq 31, 3) := by decide +kernel
theorem dX8_tries_64 : decode cX8_tries 64 = .ok (.iload_n 3, 1) := by decide +kernel
theorem dX8_tries_65 : decode cX8_tries 65 = .ok (.iconst (-1), 1) := by decide +kernel
theorem dX8_tries_66 : decode cX8_tries 66 = .ok (.if_icmp .ne 26, 3) := by decide +kernel
theorem dX8_tries_69 : decode cX8_tries 69 = .ok (.aload_n 0, 1) := by decide +kernel
theorem dX8_tries_70 : decode cX8_tries 70 = .ok (.invokevirtual 95, 3) := by decide +kernel
theorem dX8_tries_73 : decode cX8_tries 73 = .ok (.aload_n 0, 1) := by decide +kernel
theorem dX8_tries_74 : decode cX8_tries 74 = .ok (.iload_n 2, 1) := by decide +kernel
theorem dX8_tries_75 : decode cX8_tries 75 = .ok (.iload 4, 2) := by decide +kernel
theorem dX8_tries_77 : decode cX8_tries 77 = .ok (.iconst 4, 1) := by decide +kernel
theorem dX8_tries_78 : decode cX8_tries 78 = .ok (.invokevirtual 98, 3) := by decide +kernel
theorem dX8_tries_81 : decode cX8_tries 81 = .ok (.ifCond .eq 30, 3) := by decide +kernel
theorem dX8_tries_84 : decode cX8_tries 84 = .ok (.aload_n 0, 1) := by decide +kernel
theorem dX8_tries_85 : decode cX8_tries 85 = .ok (.iload_n 1, 1) := by decide +kernel
theorem dX8_tries_86 : decode cX8_tries 86 = .ok (.invokevirtual 101, 3) := by decide +kernel
theorem dX8_tries_89 : decode cX8_tries 89 = .ok (.goto 22, 3) := by decide +kernel
theorem dX8_tries_92 : decode cX8_tries 92 = .ok (.aload_n 0, 1) := by decide +kernel
theorem dX8_tries_93 : decode cX8_tries 93 = .ok (.getfield 19, 3) := by decide +kernel
theorem dX8_tries_96 : decode cX8_tries 96 = .ok (.iload 4, 2) := by decide +kernel
theorem dX8_tries_98 : decode cX8_tries 98 = .ok (.baload, 1) := by decide +kernel
theorem dX8_tries_99 : decode cX8_tries 99 = .ok (.ifCond .eq 12, 3) := by decide +kernel
theorem dX8_tries_102 : decode cX8_tries 102 = .ok (.aload_n 0, 1) := by decide +kernel
theorem dX8_tries_103 : decode cX8_tries 103 = .ok (.iload_n 1, 1) := by decide +kernel
theorem dX8_tries_104 : decode cX8_tries 104 = .ok (.iload_n 2, 1) := by decide +kernel
theorem dX8_tries_105 : decode cX8_tries 105 = .ok (.iload 4, 2) := by decide +kernel
theorem dX8_tries_107 : decode cX8_tries 107 = .ok (.iload_n 3, 1) := by decide +kernel
theorem dX8_tries_108 : decode cX8_tries 108 = .ok (.invokevirtual 105, 3) := by decide +kernel
theorem dX8_tries_111 : decode cX8_tries 111 = .ok (.iinc 4 1, 3) := by decide +kernel
theorem dX8_tries_114 : decode cX8_tries 114 = .ok (.goto (-75), 3) := by decide +kernel
theorem dX8_tries_117 : decode cX8_tries 117 = .ok (.return_, 1) := by decide +kernel
theorem dX8_triesBoth_0 : decode cX8_triesBoth 0 = .ok (.iload 4, 2) := by decide +kernel
theorem dX8_triesBoth_2 : decode cX8_triesBoth 2 = .ok (.bipush 64, 2) := by decide +kernel
theorem dX8_triesBoth_4 : decode cX8_triesBoth 4 = .ok (.idiv, 1) := by decide +kernel
theorem dX8_triesBoth_5 : decode cX8_triesBoth 5 = .ok (.bipush 64, 2) := by decide +kernel
theorem dX8_triesBoth_7 : decode cX8_triesBoth 7 = .ok (.imul, 1) := by decide +kernel
theorem dX8_triesBoth_8 : decode cX8_triesBoth 8 = .ok (.istore 5, 2) := by decide +kernel
theorem dX8_triesBoth_10 : decode cX8_triesBoth 10 = .ok (.iload 5, 2) := by decide +kernel
theorem dX8_triesBoth_12 : decode cX8_triesBoth 12 = .ok (.iload 4, 2) := by decide +kernel
theorem dX8_triesBoth_14 : decode cX8_triesBoth 14 = .ok (.bipush 64, 2) := by decide +kernel
theorem dX8_triesBoth_16 : decode cX8_triesBoth 16 = .ok (.idiv, 1) := by decide +kernel
theorem dX8_triesBoth_17 : decode cX8_triesBoth 17 = .ok (.bipush 64, 2) := by decide +kernel
theorem dX8_triesBoth_19 : decode cX8_triesBoth 19 = .ok (.imul, 1) := by decide +kernel
theorem dX8_triesBoth_20 : decode cX8_triesBoth 20 = .ok (.bipush 64, 2) := by decide +kernel
theorem dX8_triesBoth_22 : decode cX8_triesBoth 22 = .ok (.iadd, 1) := by decide +kernel
theorem dX8_triesBoth_23 : decode cX8_triesBoth 23 = .ok (.if_icmp .ge 51, 3) := by decide +kernel
theorem dX8_triesBoth_26 : decode cX8_triesBoth 26 = .ok (.aload_n 0, 1) := by decide +kernel
theorem dX8_triesBoth_27 : decode cX8_triesBoth 27 = .ok (.getfield 19, 3) := by decide +kernel
theorem dX8_triesBoth_30 : decode cX8_triesBoth 30 = .ok (.iload 5, 2) := by decide +kernel
theorem dX8_triesBoth_32 : decode cX8_triesBoth 32 = .ok (.baload, 1) := by decide +kernel
theorem dX8_triesBoth_33 : decode cX8_triesBoth 33 = .ok (.ifCond .eq 35, 3) := by decide +kernel
theorem dX8_triesBoth_36 : decode cX8_triesBoth 36 = .ok (.aload_n 0, 1) := by decide +kernel
theorem dX8_triesBoth_37 : decode cX8_triesBoth 37 = .ok (.invokevirtual 95, 3) := by decide +kernel
theorem dX8_triesBoth_40 : decode cX8_triesBoth 40 = .ok (.aload_n 0, 1) := by decide +kernel
theorem dX8_triesBoth_41 : decode cX8_triesBoth 41 = .ok (.iload_n 2, 1) := by decide +kernel
theorem dX8_triesBoth_42 : decode cX8_triesBoth 42 = .ok (.iload_n 3, 1) := by decide +kernel
theorem dX8_triesBoth_43 : decode cX8_triesBoth 43 = .ok (.iconst 4, 1) := by decide +kernel
theorem dX8_triesBoth_44 : decode cX8_triesBoth 44 = .ok (.invokevirtual 98, 3) := by decide +kernel
theorem dX8_triesBoth_47 : decode cX8_triesBoth 47 = .ok (.ifCond .eq 21, 3) := by decide +kernel
theorem dX8_triesBoth_50 : decode cX8_triesBoth 50 = .ok (.aload_n 0, 1) := by decide +kernel
theorem dX8_triesBoth_51 : decode cX8_triesBoth 51 = .ok (.iload 4, 2) := by decide +kernel
theorem dX8_triesBoth_53 : decode cX8_triesBoth 53 = .ok (.iload 5, 2) := by decide +kernel
theorem dX8_triesBoth_55 : decode cX8_triesBoth 55 = .ok (.bipush 6, 2) := by decide +kernel
theorem dX8_triesBoth_57 : decode cX8_triesBoth 57 = .ok (.invokevirtual 98, 3) := by decide +kernel
theorem dX8_triesBoth_60 : decode cX8_triesBoth 60 = .ok (.ifCond .eq 8, 3) := by decide +kernel
theorem dX8_triesBoth_63 : decode cX8_triesBoth 63 = .ok (.aload_n 0, 1) := by decide +kernel
theorem dX8_triesBoth_64 : decode cX8_triesBoth 64 = .ok (.iload_n 1, 1) := by decide +kernel
theorem dX8_triesBoth_65 : decode cX8_triesBoth 65 = .ok (.invokevirtual 101, 3) := by decide +kernel
theorem dX8_triesBoth_68 : decode cX8_triesBoth 68 = .ok (.iinc 5 1, 3) := by decide +kernel
theorem dX8_triesBoth_71 : decode cX8_triesBoth 71 = .ok (.goto (-61), 3) := by decide +kernel
theorem dX8_triesBoth_74 : decode cX8_triesBoth 74 = .ok (.return_, 1) := by decide +kernel
theorem dX8_round_0 : decode cX8_round 0 = .ok (.iconst 0, 1) := by decide +kernel
theorem dX8_round_1 : decode cX8_round 1 = .ok (.istore_n 2, 1) := by decide +kernel
theorem dX8_round_2 : decode cX8_round 2 = .ok (.iload_n 2, 1) := by decide +kernel
theorem dX8_round_3 : decode cX8_round 3 = .ok (.sipush 256, 3) := by decide +kernel
theorem dX8_round_6 : decode cX8_round 6 = .ok (.if_icmp .ge 16, 3) := by decide +kernel
theorem dX8_round_9 : decode cX8_round 9 = .ok (.aload_n 0, 1) := by decide +kernel
theorem dX8_round_10 : decode cX8_round 10 = .ok (.getfield 29, 3) := by decide +kernel
theorem dX8_round_13 : decode cX8_round 13 = .ok (.iload_n 2, 1) := by decide +kernel
theorem dX8_round_14 : decode cX8_round 14 = .ok (.iconst 0, 1) := by decide +kernel
theorem dX8_round_15 : decode cX8_round 15 = .ok (.bastore, 1) := by decide +kernel
theorem dX8_round_16 : decode cX8_round 16 = .ok (.iinc 2 1, 3) := by decide +kernel
theorem dX8_round_19 : decode cX8_round 19 = .ok (.goto (-17), 3) := by decide +kernel
theorem dX8_round_22 : decode cX8_round 22 = .ok (.iconst 0, 1) := by decide +kernel
theorem dX8_round_23 : decode cX8_round 23 = .ok (.istore_n 2, 1) := by decide +kernel
theorem dX8_round_24 : decode cX8_round 24 = .ok (.iload_n 2, 1) := by decide +kernel
theorem dX8_round_25 : decode cX8_round 25 = .ok (.aload_n 0, 1) := by decide +kernel
theorem dX8_round_26 : decode cX8_round 26 = .ok (.getfield 7, 3) := by decide +kernel
theorem dX8_round_29 : decode cX8_round 29 = .ok (.sipush 256, 3) := by decide +kernel
theorem dX8_round_32 : decode cX8_round 32 = .ok (.iaload, 1) := by decide +kernel
theorem dX8_round_33 : decode cX8_round 33 = .ok (.if_icmp .ge 19, 3) := by decide +kernel
theorem dX8_round_36 : decode cX8_round 36 = .ok (.iload_n 2, 1) := by decide +kernel
theorem dX8_round_37 : decode cX8_round 37 = .ok (.iload_n 1, 1) := by decide +kernel
theorem dX8_round_38 : decode cX8_round 38 = .ok (.if_icmp .eq 8, 3) := by decide +kernel
theorem dX8_round_41 : decode cX8_round 41 = .ok (.aload_n 0, 1) := by decide +kernel
theorem dX8_round_42 : decode cX8_round 42 = .ok (.iload_n 2, 1) := by decide +kernel
theorem dX8_round_43 : decode cX8_round 43 = .ok (.invokevirtual 109, 3) := by decide +kernel
theorem dX8_round_46 : decode cX8_round 46 = .ok (.iinc 2 1, 3) := by decide +kernel
theorem dX8_round_49 : decode cX8_round 49 = .ok (.goto (-25), 3) := by decide +kernel
theorem dX8_round_52 : decode cX8_round 52 = .ok (.iconst 0, 1) := by decide +kernel
theorem dX8_round_53 : decode cX8_round 53 = .ok (.istore_n 2, 1) := by decide +kernel
theorem dX8_round_54 : decode cX8_round 54 = .ok (.iconst 0, 1) := by decide +kernel
theorem dX8_round_55 : decode cX8_round 55 = .ok (.istore_n 3, 1) := by decide +kernel
theorem dX8_round_56 : decode cX8_round 56 = .ok (.iload_n 3, 1) := by decide +kernel
theorem dX8_round_57 : decode cX8_round 57 = .ok (.sipush 256, 3) := by decide +kernel
theorem dX8_round_60 : decode cX8_round 60 = .ok (.if_icmp .ge 61, 3) := by decide +kernel
theorem dX8_round_63 : decode cX8_round 63 = .ok (.aload_n 0, 1) := by decide +kernel
theorem dX8_round_64 : decode cX8_round 64 = .ok (.getfield 29, 3) := by decide +kernel
theorem dX8_round_67 : decode cX8_round 67 = .ok (.iload_n 3, 1) := by decide +kernel
theorem dX8_round_68 : decode cX8_round 68 = .ok (.baload, 1) := by decide +kernel
theorem dX8_round_69 : decode cX8_round 69 = .ok (.ifCond .eq 46, 3) := by decide +kernel
theorem dX8_round_72 : decode cX8_round 72 = .ok (.iconst 1, 1) := by decide +kernel
theorem dX8_round_73 : decode cX8_round 73 = .ok (.istore_n 2, 1) := by decide +kernel
theorem dX8_round_74 : decode cX8_round 74 = .ok (.aload_n 0, 1) := by decide +kernel
theorem dX8_round_75 : decode cX8_round 75 = .ok (.getfield 19, 3) := by decide +kernel
theorem dX8_round_78 : decode cX8_round 78 = .ok (.iload_n 3, 1) := by decide +kernel
theorem dX8_round_79 : decode cX8_round 79 = .ok (.iconst 1, 1) := by decide +kernel
theorem dX8_round_80 : decode cX8_round 80 = .ok (.bastore, 1) := by decide +kernel
theorem dX8_round_81 : decode cX8_round 81 = .ok (.aload_n 0, 1) := by decide +kernel
theorem dX8_round_82 : decode cX8_round 82 = .ok (.getfield 23, 3) := by decide +kernel
theorem dX8_round_85 : decode cX8_round 85 = .ok (.iload_n 3, 1) := by decide +kernel
theorem dX8_round_86 : decode cX8_round 86 = .ok (.aload_n 0, 1) := by decide +kernel
theorem dX8_round_87 : decode cX8_round 87 = .ok (.getfield 112, 3) := by decide +kernel
theorem dX8_round_90 : decode cX8_round 90 = .ok (.iconst 1, 1) := by decide +kernel
theorem dX8_round_91 : decode cX8_round 91 = .ok (.iadd, 1) := by decide +kernel
theorem dX8_round_92 : decode cX8_round 92 = .ok (.iastore, 1) := by decide +kernel
theorem dX8_round_93 : decode cX8_round 93 = .ok (.aload_n 0, 1) := by decide +kernel
theorem dX8_round_94 : decode cX8_round 94 = .ok (.getfield 26, 3) := by decide +kernel
theorem dX8_round_97 : decode cX8_round 97 = .ok (.iload_n 3, 1) := by decide +kernel
theorem dX8_round_98 : decode cX8_round 98 = .ok (.aload_n 0, 1) := by decide +kernel
theorem dX8_round_99 : decode cX8_round 99 = .ok (.getfield 32, 3) := by decide +kernel
theorem dX8_round_102 : decode cX8_round 102 = .ok (.iload_n 3, 1) := by decide +kernel
theorem dX8_round_103 : decode cX8_round 103 = .ok (.iaload, 1) := by decide +kernel
theorem dX8_round_104 : decode cX8_round 104 = .ok (.iastore, 1) := by decide +kernel
theorem dX8_round_105 : decode cX8_round 105 = .ok (.aload_n 0, 1) := by decide +kernel
theorem dX8_round_106 : decode cX8_round 106 = .ok (.dup, 1) := by decide +kernel
theorem dX8_round_107 : decode cX8_round 107 = .ok (.getfield 86, 3) := by decide +kernel
theorem dX8_round_110 : decode cX8_round 110 = .ok (.iconst 1, 1) := by decide +kernel
theorem dX8_round_111 : decode cX8_round 111 = .ok (.iadd, 1) := by decide +kernel
theorem dX8_round_112 : decode cX8_round 112 = .ok (.putfield 86, 3) := by decide +kernel
theorem dX8_round_115 : decode cX8_round 115 = .ok (.iinc 3 1, 3) := by decide +kernel
theorem dX8_round_118 : decode cX8_round 118 = .ok (.goto (-62), 3) := by decide +kernel
theorem dX8_round_121 : decode cX8_round 121 = .ok (.iload_n 2, 1) := by decide +kernel
theorem dX8_round_122 : decode cX8_round 122 = .ok (.ireturn, 1) := by decide +kernel
theorem dX8_searches_0 : decode cX8_searches 0 = .ok (.aload_n 0, 1) := by decide +kernel
theorem dX8_searches_1 : decode cX8_searches 1 = .ok (.iconst 0, 1) := by decide +kernel
theorem dX8_searches_2 : decode cX8_searches 2 = .ok (.putfield 86, 3) := by decide +kernel
theorem dX8_searches_5 : decode cX8_searches 5 = .ok (.aload_n 0, 1) := by decide +kernel
theorem dX8_searches_6 : decode cX8_searches 6 = .ok (.iconst 0, 1) := by decide +kernel
theorem dX8_searches_7 : decode cX8_searches 7 = .ok (.putfield 112, 3) := by decide +kernel
theorem dX8_searches_10 : decode cX8_searches 10 = .ok (.aload_n 0, 1) := by decide +kernel
theorem dX8_searches_11 : decode cX8_searches 11 = .ok (.iconst 0, 1) := by decide +kernel
theorem dX8_searches_12 : decode cX8_searches 12 = .ok (.putfield 89, 3) := by decide +kernel
theorem dX8_searches_15 : decode cX8_searches 15 = .ok (.aload_n 0, 1) := by decide +kernel
theorem dX8_searches_16 : decode cX8_searches 16 = .ok (.iconst 0, 1) := by decide +kernel
theorem dX8_searches_17 : decode cX8_searches 17 = .ok (.putfield 83, 3) := by decide +kernel
theorem dX8_searches_20 : decode cX8_searches 20 = .ok (.iconst 0, 1) := by decide +kernel
theorem dX8_searches_21 : decode cX8_searches 21 = .ok (.istore 4, 2) := by decide +kernel
theorem dX8_searches_23 : decode cX8_searches 23 = .ok (.iload 4, 2) := by decide +kernel
theorem dX8_searches_25 : decode cX8_searches 25 = .ok (.sipush 256, 3) := by decide +kernel
theorem dX8_searches_28 : decode cX8_searches 28 = .ok (.if_icmp .ge 84, 3) := by decide +kernel
theorem dX8_searches_31 : decode cX8_searches 31 = .ok (.aload_n 0, 1) := by decide +kernel
theorem dX8_searches_32 : decode cX8_searches 32 = .ok (.getfield 19, 3) := by decide +kernel
theorem dX8_searches_35 : decode cX8_searches 35 = .ok (.iload 4, 2) := by decide +kernel
theorem dX8_searches_37 : decode cX8_searches 37 = .ok (.aload_n 0, 1) := by decide +kernel
theorem dX8_searches_38 : decode cX8_searches 38 = .ok (.getfield 7, 3) := by decide +kernel
theorem dX8_searches_41 : decode cX8_searches 41 = .ok (.iload 4, 2) := by decide +kernel
theorem dX8_searches_43 : decode cX8_searches 43 = .ok (.iaload, 1) := by decide +kernel
theorem dX8_searches_44 : decode cX8_searches 44 = .ok (.iconst 1, 1) := by decide +kernel
theorem dX8_searches_45 : decode cX8_searches 45 = .ok (.if_icmp .ne 9, 3) := by decide +kernel
theorem dX8_searches_48 : decode cX8_searches 48 = .ok (.iload 4, 2) := by decide +kernel
theorem dX8_searches_50 : decode cX8_searches 50 = .ok (.iload_n 2, 1) := by decide +kernel
theorem dX8_searches_51 : decode cX8_searches 51 = .ok (.if_icmp .ne 9, 3) := by decide +kernel
theorem dX8_searches_54 : decode cX8_searches 54 = .ok (.iload 4, 2) := by decide +kernel
theorem dX8_searches_56 : decode cX8_searches 56 = .ok (.iload_n 3, 1) := by decide +kernel
theorem dX8_searches_57 : decode cX8_searches 57 = .ok (.if_icmp .ne 7, 3) := by decide +kernel
theorem dX8_searches_60 : decode cX8_searches 60 = .ok (.iconst 1, 1) := by decide +kernel
theorem dX8_searches_61 : decode cX8_searches 61 = .ok (.goto 4, 3) := by decide +kernel
theorem dX8_searches_64 : decode cX8_searches 64 = .ok (.iconst 0, 1) := by decide +kernel
theorem dX8_searches_65 : decode cX8_searches 65 = .ok (.bastore, 1) := by decide +kernel
theorem dX8_searches_66 : decode cX8_searches 66 = .ok (.aload_n 0, 1) := by decide +kernel
theorem dX8_searches_67 : decode cX8_searches 67 = .ok (.getfield 23, 3) := by decide +kernel
theorem dX8_searches_70 : decode cX8_searches 70 = .ok (.iload 4, 2) := by decide +kernel
theorem dX8_searches_72 : decode cX8_searches 72 = .ok (.iconst 0, 1) := by decide +kernel
theorem dX8_searches_73 : decode cX8_searches 73 = .ok (.iastore, 1) := by decide +kernel
theorem dX8_searches_74 : decode cX8_searches 74 = .ok (.aload_n 0, 1) := by decide +kernel
theorem dX8_searches_75 : decode cX8_searches 75 = .ok (.getfield 26, 3) := by decide +kernel
theorem dX8_searches_78 : decode cX8_searches 78 = .ok (.iload 4, 2) := by decide +kernel
theorem dX8_searches_80 : decode cX8_searches 80 = .ok (.iconst (-1), 1) := by decide +kernel
theorem dX8_searches_81 : decode cX8_searches 81 = .ok (.iastore, 1) := by decide +kernel
theorem dX8_searches_82 : decode cX8_searches 82 = .ok (.aload_n 0, 1) := by decide +kernel
theorem dX8_searches_83 : decode cX8_searches 83 = .ok (.dup, 1) := by decide +kernel
theorem dX8_searches_84 : decode cX8_searches 84 = .ok (.getfield 86, 3) := by decide +kernel
theorem dX8_searches_87 : decode cX8_searches 87 = .ok (.aload_n 0, 1) := by decide +kernel
theorem dX8_searches_88 : decode cX8_searches 88 = .ok (.getfield 19, 3) := by decide +kernel
theorem dX8_searches_91 : decode cX8_searches 91 = .ok (.iload 4, 2) := by decide +kernel
theorem dX8_searches_93 : decode cX8_searches 93 = .ok (.baload, 1) := by decide +kernel
theorem dX8_searches_94 : decode cX8_searches 94 = .ok (.ifCond .eq 7, 3) := by decide +kernel
theorem dX8_searches_97 : decode cX8_searches 97 = .ok (.iconst 1, 1) := by decide +kernel
theorem dX8_searches_98 : decode cX8_searches 98 = .ok (.goto 4, 3) := by decide +kernel
theorem dX8_searches_101 : decode cX8_searches 101 = .ok (.iconst 0, 1) := by decide +kernel
theorem dX8_searches_102 : decode cX8_searches 102 = .ok (.iadd, 1) := by decide +kernel
theorem dX8_searches_103 : decode cX8_searches 103 = .ok (.putfield 86, 3) := by decide +kernel
theorem dX8_searches_106 : decode cX8_searches 106 = .ok (.iinc 4 1, 3) := by decide +kernel
theorem dX8_searches_109 : decode cX8_searches 109 = .ok (.goto (-86), 3) := by decide +kernel
theorem dX8_searches_112 : decode cX8_searches 112 = .ok (.aload_n 0, 1) := by decide +kernel
theorem dX8_searches_113 : decode cX8_searches 113 = .ok (.invokevirtual 115, 3) := by decide +kernel
theorem dX8_searches_116 : decode cX8_searches 116 = .ok (.aload_n 0, 1) := by decide +kernel
theorem dX8_searches_117 : decode cX8_searches 117 = .ok (.getfield 35, 3) := by decide +kernel
theorem dX8_searches_120 : decode cX8_searches 120 = .ok (.iconst 0, 1) := by decide +kernel
theorem dX8_searches_121 : decode cX8_searches 121 = .ok (.aload_n 0, 1) := by decide +kernel
theorem dX8_searches_122 : decode cX8_searches 122 = .ok (.getfield 86, 3) := by decide +kernel
theorem dX8_searches_125 : decode cX8_searches 125 = .ok (.iastore, 1) := by decide +kernel
theorem dX8_searches_126 : decode cX8_searches 126 = .ok (.aload_n 0, 1) := by decide +kernel
theorem dX8_searches_127 : decode cX8_searches 127 = .ok (.iload_n 1, 1) := by decide +kernel
theorem dX8_searches_128 : decode cX8_searches 128 = .ok (.invokevirtual 118, 3) := by decide +kernel
theorem dX8_searches_131 : decode cX8_searches 131 = .ok (.ifCond .eq 33, 3) := by decide +kernel
theorem dX8_searches_134 : decode cX8_searches 134 = .ok (.aload_n 0, 1) := by decide +kernel
theorem dX8_searches_135 : decode cX8_searches 135 = .ok (.invokevirtual 115, 3) := by decide +kernel
theorem dX8_searches_138 : decode cX8_searches 138 = .ok (.aload_n 0, 1) := by decide +kernel
theorem dX8_searches_139 : decode cX8_searches 139 = .ok (.dup, 1) := by decide +kernel
theorem dX8_searches_140 : decode cX8_searches 140 = .ok (.getfield 112, 3) := by decide +kernel
theorem dX8_searches_143 : decode cX8_searches 143 = .ok (.iconst 1, 1) := by decide +kernel
theorem dX8_searches_144 : decode cX8_searches 144 = .ok (.iadd, 1) := by decide +kernel
theorem dX8_searches_145 : decode cX8_searches 145 = .ok (.putfield 112, 3) := by decide +kernel
theorem dX8_searches_148 : decode cX8_searches 148 = .ok (.aload_n 0, 1) := by decide +kernel
theorem dX8_searches_149 : decode cX8_searches 149 = .ok (.getfield 35, 3) := by decide +kernel
theorem dX8_searches_152 : decode cX8_searches 152 = .ok (.aload_n 0, 1) := by decide +kernel
theorem dX8_searches_153 : decode cX8_searches 153 = .ok (.getfield 112, 3) := by decide +kernel
theorem dX8_searches_156 : decode cX8_searches 156 = .ok (.aload_n 0, 1) := by decide +kernel
theorem dX8_searches_157 : decode cX8_searches 157 = .ok (.getfield 86, 3) := by decide +kernel
theorem dX8_searches_160 : decode cX8_searches 160 = .ok (.iastore, 1) := by decide +kernel
theorem dX8_searches_161 : decode cX8_searches 161 = .ok (.goto (-35), 3) := by decide +kernel
theorem dX8_searches_164 : decode cX8_searches 164 = .ok (.return_, 1) := by decide +kernel
theorem dX8_searchesAll_0 : decode cX8_searchesAll 0 = .ok (.aload_n 0, 1) := by decide +kernel
theorem dX8_searchesAll_1 : decode cX8_searchesAll 1 = .ok (.iconst (-1), 1) := by decide +kernel
theorem dX8_searchesAll_2 : decode cX8_searchesAll 2 = .ok (.iconst (-1), 1) := by decide +kernel
theorem dX8_searchesAll_3 : decode cX8_searchesAll 3 = .ok (.iconst (-1), 1) := by decide +kernel
theorem dX8_searchesAll_4 : decode cX8_searchesAll 4 = .ok (.invokevirtual 121, 3) := by decide +kernel
theorem dX8_searchesAll_7 : decode cX8_searchesAll 7 = .ok (.return_, 1) := by decide +kernel
theorem dX8_isOf_0 : decode cX8_isOf 0 = .ok (.iload_n 0, 1) := by decide +kernel
theorem dX8_isOf_1 : decode cX8_isOf 1 = .ok (.iload_n 1, 1) := by decide +kernel
theorem dX8_isOf_2 : decode cX8_isOf 2 = .ok (.if_icmp .eq 11, 3) := by decide +kernel
theorem dX8_isOf_5 : decode cX8_isOf 5 = .ok (.iload_n 0, 1) := by decide +kernel
theorem dX8_isOf_6 : decode cX8_isOf 6 = .ok (.iload_n 1, 1) := by decide +kernel
theorem dX8_isOf_7 : decode cX8_isOf 7 = .ok (.invokestatic 77, 3) := by decide +kernel
theorem dX8_isOf_10 : decode cX8_isOf 10 = .ok (.ifCond .eq 7, 3) := by decide +kernel
theorem dX8_isOf_13 : decode cX8_isOf 13 = .ok (.iconst 1, 1) := by decide +kernel
theorem dX8_isOf_14 : decode cX8_isOf 14 = .ok (.goto 4, 3) := by decide +kernel
theorem dX8_isOf_17 : decode cX8_isOf 17 = .ok (.iconst 0, 1) := by decide +kernel
theorem dX8_isOf_18 : decode cX8_isOf 18 = .ok (.ireturn, 1) := by decide +kernel
theorem dX8_isFollowing_0 : decode cX8_isFollowing 0 = .ok (.aload_n 0, 1) := by decide +kernel
theorem dX8_isFollowing_1 : decode cX8_isFollowing 1 = .ok (.getfield 19, 3) := by decide +kernel
theorem dX8_isFollowing_4 : decode cX8_isFollowing 4 = .ok (.iload_n 1, 1) := by decide +kernel
theorem dX8_isFollowing_5 : decode cX8_isFollowing 5 = .ok (.baload, 1) := by decide +kernel
theorem dX8_isFollowing_6 : decode cX8_isFollowing 6 = .ok (.ifCond .ne 11, 3) := by decide +kernel
theorem dX8_isFollowing_9 : decode cX8_isFollowing 9 = .ok (.aload_n 0, 1) := by decide +kernel
theorem dX8_isFollowing_10 : decode cX8_isFollowing 10 = .ok (.iload_n 1, 1) := by decide +kernel
theorem dX8_isFollowing_11 : decode cX8_isFollowing 11 = .ok (.invokevirtual 80, 3) := by decide +kernel
theorem dX8_isFollowing_14 : decode cX8_isFollowing 14 = .ok (.ifCond .eq 7, 3) := by decide +kernel
theorem dX8_isFollowing_17 : decode cX8_isFollowing 17 = .ok (.iconst 1, 1) := by decide +kernel
theorem dX8_isFollowing_18 : decode cX8_isFollowing 18 = .ok (.goto 4, 3) := by decide +kernel
theorem dX8_isFollowing_21 : decode cX8_isFollowing 21 = .ok (.iconst 0, 1) := by decide +kernel
theorem dX8_isFollowing_22 : decode cX8_isFollowing 22 = .ok (.ireturn, 1) := by decide +kernel
theorem dX8_allInstances_0 : decode cX8_allInstances 0 = .ok (.iconst 0, 1) := by decide +kernel
theorem dX8_allInstances_1 : decode cX8_allInstances 1 = .ok (.istore_n 1, 1) := by decide +kernel
theorem dX8_allInstances_2 : decode cX8_allInstances 2 = .ok (.iconst 0, 1) := by decide +kernel
theorem dX8_allInstances_3 : decode cX8_allInstances 3 = .ok (.istore_n 2, 1) := by decide +kernel
theorem dX8_allInstances_4 : decode cX8_allInstances 4 = .ok (.iload_n 2, 1) := by decide +kernel
theorem dX8_allInstances_5 : decode cX8_allInstances 5 = .ok (.sipush 256, 3) := by decide +kernel
theorem dX8_allInstances_8 : decode cX8_allInstances 8 = .ok (.if_icmp .ge 44, 3) := by decide +kernel
theorem dX8_allInstances_11 : decode cX8_allInstances 11 = .ok (.iload_n 1, 1) := by decide +kernel
theorem dX8_allInstances_12 : decode cX8_allInstances 12 = .ok (.iload_n 2, 1) := by decide +kernel
theorem dX8_allInstances_13 : decode cX8_allInstances 13 = .ok (.bipush 8, 2) := by decide +kernel
theorem dX8_allInstances_15 : decode cX8_allInstances 15 = .ok (.idiv, 1) := by decide +kernel
theorem dX8_allInstances_16 : decode cX8_allInstances 16 = .ok (.bipush 8, 2) := by decide +kernel
theorem dX8_allInstances_18 : decode cX8_allInstances 18 = .ok (.irem, 1) := by decide +kernel
theorem dX8_allInstances_19 : decode cX8_allInstances 19 = .ok (.iconst 4, 1) := by decide +kernel
theorem dX8_allInstances_20 : decode cX8_allInstances 20 = .ok (.if_icmp .ge 23, 3) := by decide +kernel
theorem dX8_allInstances_23 : decode cX8_allInstances 23 = .ok (.iload_n 2, 1) := by decide +kernel
theorem dX8_allInstances_24 : decode cX8_allInstances 24 = .ok (.bipush 8, 2) := by decide +kernel
theorem dX8_allInstances_26 : decode cX8_allInstances 26 = .ok (.irem, 1) := by decide +kernel
theorem dX8_allInstances_27 : decode cX8_allInstances 27 = .ok (.iconst 4, 1) := by decide +kernel
theorem dX8_allInstances_28 : decode cX8_allInstances 28 = .ok (.if_icmp .ge 15, 3) := by decide +kernel
theorem dX8_allInstances_31 : decode cX8_allInstances 31 = .ok (.aload_n 0, 1) := by decide +kernel
theorem dX8_allInstances_32 : decode cX8_allInstances 32 = .ok (.iload_n 2, 1) := by decide +kernel
theorem dX8_allInstances_33 : decode cX8_allInstances 33 = .ok (.invokevirtual 125, 3) := by decide +kernel
theorem dX8_allInstances_36 : decode cX8_allInstances 36 = .ok (.ifCond .eq 7, 3) := by decide +kernel
theorem dX8_allInstances_39 : decode cX8_allInstances 39 = .ok (.iconst 1, 1) := by decide +kernel
theorem dX8_allInstances_40 : decode cX8_allInstances 40 = .ok (.goto 4, 3) := by decide +kernel
theorem dX8_allInstances_43 : decode cX8_allInstances 43 = .ok (.iconst 0, 1) := by decide +kernel
theorem dX8_allInstances_44 : decode cX8_allInstances 44 = .ok (.iadd, 1) := by decide +kernel
theorem dX8_allInstances_45 : decode cX8_allInstances 45 = .ok (.istore_n 1, 1) := by decide +kernel
theorem dX8_allInstances_46 : decode cX8_allInstances 46 = .ok (.iinc 2 1, 3) := by decide +kernel
theorem dX8_allInstances_49 : decode cX8_allInstances 49 = .ok (.goto (-45), 3) := by decide +kernel
theorem dX8_allInstances_52 : decode cX8_allInstances 52 = .ok (.iload_n 1, 1) := by decide +kernel
theorem dX8_allInstances_53 : decode cX8_allInstances 53 = .ok (.ireturn, 1) := by decide +kernel
theorem dX8_foundAt_0 : decode cX8_foundAt 0 = .ok (.iload_n 1, 1) := by decide +kernel
theorem dX8_foundAt_1 : decode cX8_foundAt 1 = .ok (.istore_n 2, 1) := by decide +kernel
theorem dX8_foundAt_2 : decode cX8_foundAt 2 = .ok (.iconst 0, 1) := by decide +kernel
theorem dX8_foundAt_3 : decode cX8_foundAt 3 = .ok (.istore_n 3, 1) := by decide +kernel
theorem dX8_foundAt_4 : decode cX8_foundAt 4 = .ok (.iload_n 3, 1) := by decide +kernel
theorem dX8_foundAt_5 : decode cX8_foundAt 5 = .ok (.sipush 256, 3) := by decide +kernel
theorem dX8_foundAt_8 : decode cX8_foundAt 8 = .ok (.if_icmp .ge 32, 3) := by decide +kernel
theorem dX8_foundAt_11 : decode cX8_foundAt 11 = .ok (.iload_n 2, 1) := by decide +kernel
theorem dX8_foundAt_12 : decode cX8_foundAt 12 = .ok (.aload_n 0, 1) := by decide +kernel
theorem dX8_foundAt_13 : decode cX8_foundAt 13 = .ok (.getfield 19, 3) := by decide +kernel
theorem dX8_foundAt_16 : decode cX8_foundAt 16 = .ok (.iload_n 3, 1) := by decide +kernel
theorem dX8_foundAt_17 : decode cX8_foundAt 17 = .ok (.baload, 1) := by decide +kernel
theorem dX8_foundAt_18 : decode cX8_foundAt 18 = .ok (.ifCond .eq 7, 3) := by decide +kernel
theorem dX8_foundAt_21 : decode cX8_foundAt 21 = .ok (.iconst 1, 1) := by decide +kernel
theorem dX8_foundAt_22 : decode cX8_foundAt 22 = .ok (.goto 4, 3) := by decide +kernel
theorem dX8_foundAt_25 : decode cX8_foundAt 25 = .ok (.iconst 0, 1) := by decide +kernel
theorem dX8_foundAt_26 : decode cX8_foundAt 26 = .ok (.isub, 1) := by decide +kernel
theorem dX8_foundAt_27 : decode cX8_foundAt 27 = .ok (.istore_n 2, 1) := by decide +kernel
theorem dX8_foundAt_28 : decode cX8_foundAt 28 = .ok (.iload_n 2, 1) := by decide +kernel
theorem dX8_foundAt_29 : decode cX8_foundAt 29 = .ok (.ifCond .ge 5, 3) := by decide +kernel
theorem dX8_foundAt_32 : decode cX8_foundAt 32 = .ok (.iload_n 3, 1) := by decide +kernel
theorem dX8_foundAt_33 : decode cX8_foundAt 33 = .ok (.ireturn, 1) := by decide +kernel
theorem dX8_foundAt_34 : decode cX8_foundAt 34 = .ok (.iinc 3 1, 3) := by decide +kernel
theorem dX8_foundAt_37 : decode cX8_foundAt 37 = .ok (.goto (-33), 3) := by decide +kernel
theorem dX8_foundAt_40 : decode cX8_foundAt 40 = .ok (.iconst (-1), 1) := by decide +kernel
theorem dX8_foundAt_41 : decode cX8_foundAt 41 = .ok (.ireturn, 1) := by decide +kernel
theorem dX8_tell_0 : decode cX8_tell 0 = .ok (.aload_n 0, 1) := by decide +kernel
theorem dX8_tell_1 : decode cX8_tell 1 = .ok (.iconst 0, 1) := by decide +kernel
theorem dX8_tell_2 : decode cX8_tell 2 = .ok (.putfield 47, 3) := by decide +kernel
theorem dX8_tell_5 : decode cX8_tell 5 = .ok (.iload_n 1, 1) := by decide +kernel
theorem dX8_tell_6 : decode cX8_tell 6 = .ok (.iload_n 2, 1) := by decide +kernel
theorem dX8_tell_7 : decode cX8_tell 7 = .ok (.iload_n 3, 1) := by decide +kernel
theorem dX8_tell_8 : decode cX8_tell 8 = .ok (.invokestatic 128, 3) := by decide +kernel
theorem dX8_tell_11 : decode cX8_tell 11 = .ok (.ifCond .ne 9, 3) := by decide +kernel
theorem dX8_tell_14 : decode cX8_tell 14 = .ok (.aload_n 0, 1) := by decide +kernel
theorem dX8_tell_15 : decode cX8_tell 15 = .ok (.iconst 1, 1) := by decide +kernel
theorem dX8_tell_16 : decode cX8_tell 16 = .ok (.invokevirtual 131, 3) := by decide +kernel
theorem dX8_tell_19 : decode cX8_tell 19 = .ok (.ireturn, 1) := by decide +kernel
theorem dX8_tell_20 : decode cX8_tell 20 = .ok (.bipush 64, 2) := by decide +kernel
theorem dX8_tell_22 : decode cX8_tell 22 = .ok (.iload_n 1, 1) := by decide +kernel
theorem dX8_tell_23 : decode cX8_tell 23 = .ok (.imul, 1) := by decide +kernel
theorem dX8_tell_24 : decode cX8_tell 24 = .ok (.bipush 8, 2) := by decide +kernel
theorem dX8_tell_26 : decode cX8_tell 26 = .ok (.iload_n 2, 1) := by decide +kernel
theorem dX8_tell_27 : decode cX8_tell 27 = .ok (.imul, 1) := by decide +kernel
theorem dX8_tell_28 : decode cX8_tell 28 = .ok (.iadd, 1) := by decide +kernel
theorem dX8_tell_29 : decode cX8_tell 29 = .ok (.iload_n 3, 1) := by decide +kernel
theorem dX8_tell_30 : decode cX8_tell 30 = .ok (.iadd, 1) := by decide +kernel
theorem dX8_tell_31 : decode cX8_tell 31 = .ok (.istore 4, 2) := by decide +kernel
theorem dX8_tell_33 : decode cX8_tell 33 = .ok (.aload_n 0, 1) := by decide +kernel
theorem dX8_tell_34 : decode cX8_tell 34 = .ok (.getfield 7, 3) := by decide +kernel
theorem dX8_tell_37 : decode cX8_tell 37 = .ok (.iload 4, 2) := by decide +kernel
theorem dX8_tell_39 : decode cX8_tell 39 = .ok (.iaload, 1) := by decide +kernel
theorem dX8_tell_40 : decode cX8_tell 40 = .ok (.ifCond .ne 18, 3) := by decide +kernel
theorem dX8_tell_43 : decode cX8_tell 43 = .ok (.aload_n 0, 1) := by decide +kernel
theorem dX8_tell_44 : decode cX8_tell 44 = .ok (.invokevirtual 134, 3) := by decide +kernel
theorem dX8_tell_47 : decode cX8_tell 47 = .ok (.bipush 12, 2) := by decide +kernel
theorem dX8_tell_49 : decode cX8_tell 49 = .ok (.if_icmp .ne 9, 3) := by decide +kernel
theorem dX8_tell_52 : decode cX8_tell 52 = .ok (.aload_n 0, 1) := by decide +kernel
theorem dX8_tell_53 : decode cX8_tell 53 = .ok (.iconst 2, 1) := by decide +kernel
theorem dX8_tell_54 : decode cX8_tell 54 = .ok (.invokevirtual 131, 3) := by decide +kernel
theorem dX8_tell_57 : decode cX8_tell 57 = .ok (.ireturn, 1) := by decide +kernel
theorem dX8_tell_58 : decode cX8_tell 58 = .ok (.aload_n 0, 1) := by decide +kernel
theorem dX8_tell_59 : decode cX8_tell 59 = .ok (.invokevirtual 138, 3) := by decide +kernel
theorem dX8_tell_62 : decode cX8_tell 62 = .ok (.aload_n 0, 1) := by decide +kernel
theorem dX8_tell_63 : decode cX8_tell 63 = .ok (.getfield 7, 3) := by decide +kernel
theorem dX8_tell_66 : decode cX8_tell 66 = .ok (.iload 4, 2) := by decide +kernel
theorem dX8_tell_68 : decode cX8_tell 68 = .ok (.iconst 1, 1) := by decide +kernel
theorem dX8_tell_69 : decode cX8_tell 69 = .ok (.iastore, 1) := by decide +kernel
theorem dX8_tell_70 : decode cX8_tell 70 = .ok (.aload_n 0, 1) := by decide +kernel
theorem dX8_tell_71 : decode cX8_tell 71 = .ok (.invokevirtual 134, 3) := by decide +kernel
theorem dX8_tell_74 : decode cX8_tell 74 = .ok (.ireturn, 1) := by decide +kernel
theorem dX8_untell_0 : decode cX8_untell 0 = .ok (.aload_n 0, 1) := by decide +kernel
theorem dX8_untell_1 : decode cX8_untell 1 = .ok (.iconst 0, 1) := by decide +kernel
theorem dX8_untell_2 : decode cX8_untell 2 = .ok (.putfield 47, 3) := by decide +kernel
theorem dX8_untell_5 : decode cX8_untell 5 = .ok (.iload_n 1, 1) := by decide +kernel
theorem dX8_untell_6 : decode cX8_untell 6 = .ok (.iload_n 2, 1) := by decide +kernel
theorem dX8_untell_7 : decode cX8_untell 7 = .ok (.iload_n 3, 1) := by decide +kernel
theorem dX8_untell_8 : decode cX8_untell 8 = .ok (.invokestatic 128, 3) := by decide +kernel
theorem dX8_untell_11 : decode cX8_untell 11 = .ok (.ifCond .ne 9, 3) := by decide +kernel
theorem dX8_untell_14 : decode cX8_untell 14 = .ok (.aload_n 0, 1) := by decide +kernel
theorem dX8_untell_15 : decode cX8_untell 15 = .ok (.iconst 1, 1) := by decide +kernel
theorem dX8_untell_16 : decode cX8_untell 16 = .ok (.invokevirtual 131, 3) := by decide +kernel
theorem dX8_untell_19 : decode cX8_untell 19 = .ok (.ireturn, 1) := by decide +kernel
theorem dX8_untell_20 : decode cX8_untell 20 = .ok (.aload_n 0, 1) := by decide +kernel
theorem dX8_untell_21 : decode cX8_untell 21 = .ok (.invokevirtual 138, 3) := by decide +kernel
theorem dX8_untell_24 : decode cX8_untell 24 = .ok (.bipush 64, 2) := by decide +kernel
theorem dX8_untell_26 : decode cX8_untell 26 = .ok (.iload_n 1, 1) := by decide +kernel
theorem dX8_untell_27 : decode cX8_untell 27 = .ok (.imul, 1) := by decide +kernel
theorem dX8_untell_28 : decode cX8_untell 28 = .ok (.bipush 8, 2) := by decide +kernel
theorem dX8_untell_30 : decode cX8_untell 30 = .ok (.iload_n 2, 1) := by decide +kernel
theorem dX8_untell_31 : decode cX8_untell 31 = .ok (.imul, 1) := by decide +kernel
theorem dX8_untell_32 : decode cX8_untell 32 = .ok (.iadd, 1) := by decide +kernel
theorem dX8_untell_33 : decode cX8_untell 33 = .ok (.iload_n 3, 1) := by decide +kernel
theorem dX8_untell_34 : decode cX8_untell 34 = .ok (.iadd, 1) := by decide +kernel
theorem dX8_untell_35 : decode cX8_untell 35 = .ok (.istore 4, 2) := by decide +kernel
theorem dX8_untell_37 : decode cX8_untell 37 = .ok (.aload_n 0, 1) := by decide +kernel
theorem dX8_untell_38 : decode cX8_untell 38 = .ok (.getfield 7, 3) := by decide +kernel
theorem dX8_untell_41 : decode cX8_untell 41 = .ok (.iload 4, 2) := by decide +kernel
theorem dX8_untell_43 : decode cX8_untell 43 = .ok (.iaload, 1) := by decide +kernel
theorem dX8_untell_44 : decode cX8_untell 44 = .ok (.istore 5, 2) := by decide +kernel
theorem dX8_untell_46 : decode cX8_untell 46 = .ok (.aload_n 0, 1) := by decide +kernel
theorem dX8_untell_47 : decode cX8_untell 47 = .ok (.getfield 7, 3) := by decide +kernel
theorem dX8_untell_50 : decode cX8_untell 50 = .ok (.iload 4, 2) := by decide +kernel
theorem dX8_untell_52 : decode cX8_untell 52 = .ok (.iconst 0, 1) := by decide +kernel
theorem dX8_untell_53 : decode cX8_untell 53 = .ok (.iastore, 1) := by decide +kernel
theorem dX8_untell_54 : decode cX8_untell 54 = .ok (.iload 5, 2) := by decide +kernel
theorem dX8_untell_56 : decode cX8_untell 56 = .ok (.ireturn, 1) := by decide +kernel
theorem dX8_comesRule_0 : decode cX8_comesRule 0 = .ok (.sipush 257, 3) := by decide +kernel
theorem dX8_comesRule_3 : decode cX8_comesRule 3 = .ok (.iconst 3, 1) := by decide +kernel
theorem dX8_comesRule_4 : decode cX8_comesRule 4 = .ok (.aload_n 0, 1) := by decide +kernel
theorem dX8_comesRule_5 : decode cX8_comesRule 5 = .ok (.getfield 7, 3) := by decide +kernel
theorem dX8_comesRule_8 : decode cX8_comesRule 8 = .ok (.sipush 256, 3) := by decide +kernel
theorem dX8_comesRule_11 : decode cX8_comesRule 11 = .ok (.iaload, 1) := by decide +kernel
theorem dX8_comesRule_12 : decode cX8_comesRule 12 = .ok (.imul, 1) := by decide +kernel
theorem dX8_comesRule_13 : decode cX8_comesRule 13 = .ok (.iadd, 1) := by decide +kernel
theorem dX8_comesRule_14 : decode cX8_comesRule 14 = .ok (.istore 4, 2) := by decide +kernel
theorem dX8_comesRule_16 : decode cX8_comesRule 16 = .ok (.aload_n 0, 1) := by decide +kernel
theorem dX8_comesRule_17 : decode cX8_comesRule 17 = .ok (.getfield 7, 3) := by decide +kernel
theorem dX8_comesRule_20 : decode cX8_comesRule 20 = .ok (.iload 4, 2) := by decide +kernel
theorem dX8_comesRule_22 : decode cX8_comesRule 22 = .ok (.iload_n 1, 1) := by decide +kernel
theorem dX8_comesRule_23 : decode cX8_comesRule 23 = .ok (.iastore, 1) := by decide +kernel
theorem dX8_comesRule_24 : decode cX8_comesRule 24 = .ok (.aload_n 0, 1) := by decide +kernel
theorem dX8_comesRule_25 : decode cX8_comesRule 25 = .ok (.getfield 7, 3) := by decide +kernel
theorem dX8_comesRule_28 : decode cX8_comesRule 28 = .ok (.iload 4, 2) := by decide +kernel
theorem dX8_comesRule_30 : decode cX8_comesRule 30 = .ok (.iconst 1, 1) := by decide +kernel
theorem dX8_comesRule_31 : decode cX8_comesRule 31 = .ok (.iadd, 1) := by decide +kernel
theorem dX8_comesRule_32 : decode cX8_comesRule 32 = .ok (.iload_n 2, 1) := by decide +kernel
theorem dX8_comesRule_33 : decode cX8_comesRule 33 = .ok (.iastore, 1) := by decide +kernel
theorem dX8_comesRule_34 : decode cX8_comesRule 34 = .ok (.aload_n 0, 1) := by decide +kernel
theorem dX8_comesRule_35 : decode cX8_comesRule 35 = .ok (.getfield 7, 3) := by decide +kernel
theorem dX8_comesRule_38 : decode cX8_comesRule 38 = .ok (.iload 4, 2) := by decide +kernel
theorem dX8_comesRule_40 : decode cX8_comesRule 40 = .ok (.iconst 2, 1) := by decide +kernel
theorem dX8_comesRule_41 : decode cX8_comesRule 41 = .ok (.iadd, 1) := by decide +kernel
theorem dX8_comesRule_42 : decode cX8_comesRule 42 = .ok (.iload_n 3, 1) := by decide +kernel
theorem dX8_comesRule_43 : decode cX8_comesRule 43 = .ok (.iastore, 1) := by decide +kernel
theorem dX8_comesRule_44 : decode cX8_comesRule 44 = .ok (.aload_n 0, 1) := by decide +kernel
theorem dX8_comesRule_45 : decode cX8_comesRule 45 = .ok (.getfield 7, 3) := by decide +kernel
theorem dX8_comesRule_48 : decode cX8_comesRule 48 = .ok (.sipush 256, 3) := by decide +kernel
theorem dX8_comesRule_51 : decode cX8_comesRule 51 = .ok (.dup2, 1) := by decide +kernel
theorem dX8_comesRule_52 : decode cX8_comesRule 52 = .ok (.iaload, 1) := by decide +kernel
theorem dX8_comesRule_53 : decode cX8_comesRule 53 = .ok (.iconst 1, 1) := by decide +kernel
theorem dX8_comesRule_54 : decode cX8_comesRule 54 = .ok (.iadd, 1) := by decide +kernel
theorem dX8_comesRule_55 : decode cX8_comesRule 55 = .ok (.iastore, 1) := by decide +kernel
theorem dX8_comesRule_56 : decode cX8_comesRule 56 = .ok (.return_, 1) := by decide +kernel
theorem dX8_adds_0 : decode cX8_adds 0 = .ok (.iload_n 1, 1) := by decide +kernel
theorem dX8_adds_1 : decode cX8_adds 1 = .ok (.iconst 0, 1) := by decide +kernel
theorem dX8_adds_2 : decode cX8_adds 2 = .ok (.sipush 255, 3) := by decide +kernel
theorem dX8_adds_5 : decode cX8_adds 5 = .ok (.invokestatic 54, 3) := by decide +kernel
theorem dX8_adds_8 : decode cX8_adds 8 = .ok (.ifCond .eq 25, 3) := by decide +kernel
theorem dX8_adds_11 : decode cX8_adds 11 = .ok (.iload_n 2, 1) := by decide +kernel
theorem dX8_adds_12 : decode cX8_adds 12 = .ok (.iconst 0, 1) := by decide +kernel
theorem dX8_adds_13 : decode cX8_adds 13 = .ok (.sipush 255, 3) := by decide +kernel
theorem dX8_adds_16 : decode cX8_adds 16 = .ok (.invokestatic 54, 3) := by decide +kernel
theorem dX8_adds_19 : decode cX8_adds 19 = .ok (.ifCond .eq 14, 3) := by decide +kernel
theorem dX8_adds_22 : decode cX8_adds 22 = .ok (.iload_n 3, 1) := by decide +kernel
theorem dX8_adds_23 : decode cX8_adds 23 = .ok (.iconst (-1), 1) := by decide +kernel
theorem dX8_adds_24 : decode cX8_adds 24 = .ok (.sipush 255, 3) := by decide +kernel
theorem dX8_adds_27 : decode cX8_adds 27 = .ok (.invokestatic 54, 3) := by decide +kernel
theorem dX8_adds_30 : decode cX8_adds 30 = .ok (.ifCond .ne 9, 3) := by decide +kernel
theorem dX8_adds_33 : decode cX8_adds 33 = .ok (.aload_n 0, 1) := by decide +kernel
theorem dX8_adds_34 : decode cX8_adds 34 = .ok (.iconst 1, 1) := by decide +kernel
theorem dX8_adds_35 : decode cX8_adds 35 = .ok (.invokevirtual 131, 3) := by decide +kernel
theorem dX8_adds_38 : decode cX8_adds 38 = .ok (.ireturn, 1) := by decide +kernel
theorem dX8_adds_39 : decode cX8_adds 39 = .ok (.aload_n 0, 1) := by decide +kernel
theorem dX8_adds_40 : decode cX8_adds 40 = .ok (.getfield 7, 3) := by decide +kernel
theorem dX8_adds_43 : decode cX8_adds 43 = .ok (.sipush 256, 3) := by decide +kernel
theorem dX8_adds_46 : decode cX8_adds 46 = .ok (.iaload, 1) := by decide +kernel
theorem dX8_adds_47 : decode cX8_adds 47 = .ok (.bipush 6, 2) := by decide +kernel
theorem dX8_adds_49 : decode cX8_adds 49 = .ok (.if_icmp .ne 9, 3) := by decide +kernel
theorem dX8_adds_52 : decode cX8_adds 52 = .ok (.aload_n 0, 1) := by decide +kernel
theorem dX8_adds_53 : decode cX8_adds 53 = .ok (.iconst 2, 1) := by decide +kernel
theorem dX8_adds_54 : decode cX8_adds 54 = .ok (.invokevirtual 131, 3) := by decide +kernel
theorem dX8_adds_57 : decode cX8_adds 57 = .ok (.ireturn, 1) := by decide +kernel
theorem dX8_adds_58 : decode cX8_adds 58 = .ok (.aload_n 0, 1) := by decide +kernel
theorem dX8_adds_59 : decode cX8_adds 59 = .ok (.invokevirtual 138, 3) := by decide +kernel
theorem dX8_adds_62 : decode cX8_adds 62 = .ok (.aload_n 0, 1) := by decide +kernel
theorem dX8_adds_63 : decode cX8_adds 63 = .ok (.iload_n 1, 1) := by decide +kernel
theorem dX8_adds_64 : decode cX8_adds 64 = .ok (.iload_n 2, 1) := by decide +kernel
theorem dX8_adds_65 : decode cX8_adds 65 = .ok (.iload_n 3, 1) := by decide +kernel
theorem dX8_adds_66 : decode cX8_adds 66 = .ok (.invokevirtual 141, 3) := by decide +kernel
theorem dX8_adds_69 : decode cX8_adds 69 = .ok (.aload_n 0, 1) := by decide +kernel
theorem dX8_adds_70 : decode cX8_adds 70 = .ok (.getfield 7, 3) := by decide +kernel
theorem dX8_adds_73 : decode cX8_adds 73 = .ok (.sipush 256, 3) := by decide +kernel
theorem dX8_adds_76 : decode cX8_adds 76 = .ok (.iaload, 1) := by decide +kernel
theorem dX8_adds_77 : decode cX8_adds 77 = .ok (.iconst 1, 1) := by decide +kernel
theorem dX8_adds_78 : decode cX8_adds 78 = .ok (.isub, 1) := by decide +kernel
theorem dX8_adds_79 : decode cX8_adds 79 = .ok (.ireturn, 1) := by decide +kernel
theorem dX8_rule_0 : decode cX8_rule 0 = .ok (.aload_n 0, 1) := by decide +kernel
theorem dX8_rule_1 : decode cX8_rule 1 = .ok (.iconst 0, 1) := by decide +kernel
theorem dX8_rule_2 : decode cX8_rule 2 = .ok (.putfield 47, 3) := by decide +kernel
theorem dX8_rule_5 : decode cX8_rule 5 = .ok (.aload_n 0, 1) := by decide +kernel
theorem dX8_rule_6 : decode cX8_rule 6 = .ok (.iload_n 1, 1) := by decide +kernel
theorem dX8_rule_7 : decode cX8_rule 7 = .ok (.iload_n 2, 1) := by decide +kernel
theorem dX8_rule_8 : decode cX8_rule 8 = .ok (.iconst (-1), 1) := by decide +kernel
theorem dX8_rule_9 : decode cX8_rule 9 = .ok (.invokevirtual 144, 3) := by decide +kernel
theorem dX8_rule_12 : decode cX8_rule 12 = .ok (.ireturn, 1) := by decide +kernel
theorem dX8_joining_0 : decode cX8_joining 0 = .ok (.aload_n 0, 1) := by decide +kernel
theorem dX8_joining_1 : decode cX8_joining 1 = .ok (.iconst 0, 1) := by decide +kernel
theorem dX8_joining_2 : decode cX8_joining 2 = .ok (.putfield 47, 3) := by decide +kernel
theorem dX8_joining_5 : decode cX8_joining 5 = .ok (.iload_n 3, 1) := by decide +kernel
theorem dX8_joining_6 : decode cX8_joining 6 = .ok (.iconst (-1), 1) := by decide +kernel
theorem dX8_joining_7 : decode cX8_joining 7 = .ok (.if_icmp .ne 11, 3) := by decide +kernel
theorem dX8_joining_10 : decode cX8_joining 10 = .ok (.aload_n 0, 1) := by decide +kernel
theorem dX8_joining_11 : decode cX8_joining 11 = .ok (.iconst 1, 1) := by decide +kernel
theorem dX8_joining_12 : decode cX8_joining 12 = .ok (.invokevirtual 131, 3) := by decide +kernel
theorem dX8_joining_15 : decode cX8_joining 15 = .ok (.goto 10, 3) := by decide +kernel
theorem dX8_joining_18 : decode cX8_joining 18 = .ok (.aload_n 0, 1) := by decide +kernel
theorem dX8_joining_19 : decode cX8_joining 19 = .ok (.iload_n 1, 1) := by decide +kernel
theorem dX8_joining_20 : decode cX8_joining 20 = .ok (.iload_n 2, 1) := by decide +kernel
theorem dX8_joining_21 : decode cX8_joining 21 = .ok (.iload_n 3, 1) := by decide +kernel
theorem dX8_joining_22 : decode cX8_joining 22 = .ok (.invokevirtual 144, 3) := by decide +kernel
theorem dX8_joining_25 : decode cX8_joining 25 = .ok (.ireturn, 1) := by decide +kernel
theorem dX8_remove_0 : decode cX8_remove 0 = .ok (.aload_n 0, 1) := by decide +kernel
theorem dX8_remove_1 : decode cX8_remove 1 = .ok (.iconst 0, 1) := by decide +kernel
theorem dX8_remove_2 : decode cX8_remove 2 = .ok (.putfield 47, 3) := by decide +kernel
theorem dX8_remove_5 : decode cX8_remove 5 = .ok (.iload_n 1, 1) := by decide +kernel
theorem dX8_remove_6 : decode cX8_remove 6 = .ok (.iconst 0, 1) := by decide +kernel
theorem dX8_remove_7 : decode cX8_remove 7 = .ok (.aload_n 0, 1) := by decide +kernel
theorem dX8_remove_8 : decode cX8_remove 8 = .ok (.getfield 7, 3) := by decide +kernel
theorem dX8_remove_11 : decode cX8_remove 11 = .ok (.sipush 256, 3) := by decide +kernel
theorem dX8_remove_14 : decode cX8_remove 14 = .ok (.iaload, 1) := by decide +kernel
theorem dX8_remove_15 : decode cX8_remove 15 = .ok (.iconst 1, 1) := by decide +kernel
theorem dX8_remove_16 : decode cX8_remove 16 = .ok (.isub, 1) := by decide +kernel
theorem dX8_remove_17 : decode cX8_remove 17 = .ok (.invokestatic 54, 3) := by decide +kernel
theorem dX8_remove_20 : decode cX8_remove 20 = .ok (.ifCond .ne 9, 3) := by decide +kernel
theorem dX8_remove_23 : decode cX8_remove 23 = .ok (.aload_n 0, 1) := by decide +kernel
theorem dX8_remove_24 : decode cX8_remove 24 = .ok (.iconst 1, 1) := by decide +kernel
theorem dX8_remove_25 : decode cX8_remove 25 = .ok (.invokevirtual 131, 3) := by decide +kernel
theorem dX8_remove_28 : decode cX8_remove 28 = .ok (.ireturn, 1) := by decide +kernel
theorem dX8_remove_29 : decode cX8_remove 29 = .ok (.aload_n 0, 1) := by decide +kernel
theorem dX8_remove_30 : decode cX8_remove 30 = .ok (.invokevirtual 138, 3) := by decide +kernel
theorem dX8_remove_33 : decode cX8_remove 33 = .ok (.sipush 257, 3) := by decide +kernel
theorem dX8_remove_36 : decode cX8_remove 36 = .ok (.iconst 3, 1) := by decide +kernel
theorem dX8_remove_37 : decode cX8_remove 37 = .ok (.iload_n 1, 1) := by decide +kernel
theorem dX8_remove_38 : decode cX8_remove 38 = .ok (.imul, 1) := by decide +kernel
theorem dX8_remove_39 : decode cX8_remove 39 = .ok (.iadd, 1) := by decide +kernel
theorem dX8_remove_40 : decode cX8_remove 40 = .ok (.istore_n 2, 1) := by decide +kernel
theorem dX8_remove_41 : decode cX8_remove 41 = .ok (.iload_n 2, 1) := by decide +kernel
theorem dX8_remove_42 : decode cX8_remove 42 = .ok (.sipush 257, 3) := by decide +kernel
theorem dX8_remove_45 : decode cX8_remove 45 = .ok (.iconst 3, 1) := by decide +kernel
theorem dX8_remove_46 : decode cX8_remove 46 = .ok (.aload_n 0, 1) := by decide +kernel
theorem dX8_remove_47 : decode cX8_remove 47 = .ok (.getfield 7, 3) := by decide +kernel
theorem dX8_remove_50 : decode cX8_remove 50 = .ok (.sipush 256, 3) := by decide +kernel
theorem dX8_remove_53 : decode cX8_remove 53 = .ok (.iaload, 1) := by decide +kernel
theorem dX8_remove_54 : decode cX8_remove 54 = .ok (.iconst 1, 1) := by decide +kernel
theorem dX8_remove_55 : decode cX8_remove 55 = .ok (.isub, 1) := by decide +kernel
theorem dX8_remove_56 : decode cX8_remove 56 = .ok (.imul, 1) := by decide +kernel
theorem dX8_remove_57 : decode cX8_remove 57 = .ok (.iadd, 1) := by decide +kernel
theorem dX8_remove_58 : decode cX8_remove 58 = .ok (.if_icmp .ge 23, 3) := by decide +kernel
theorem dX8_remove_61 : decode cX8_remove 61 = .ok (.aload_n 0, 1) := by decide +kernel
theorem dX8_remove_62 : decode cX8_remove 62 = .ok (.getfield 7, 3) := by decide +kernel
theorem dX8_remove_65 : decode cX8_remove 65 = .ok (.iload_n 2, 1) := by decide +kernel
theorem dX8_remove_66 : decode cX8_remove 66 = .ok (.aload_n 0, 1) := by decide +kernel
theorem dX8_remove_67 : decode cX8_remove 67 = .ok (.getfield 7, 3) := by decide +kernel
theorem dX8_remove_70 : decode cX8_remove 70 = .ok (.iload_n 2, 1) := by decide +kernel
theorem dX8_remove_71 : decode cX8_remove 71 = .ok (.iconst 3, 1) := by decide +kernel
theorem dX8_remove_72 : decode cX8_remove 72 = .ok (.iadd, 1) := by decide +kernel
theorem dX8_remove_73 : decode cX8_remove 73 = .ok (.iaload, 1) := by decide +kernel
theorem dX8_remove_74 : decode cX8_remove 74 = .ok (.iastore, 1) := by decide +kernel
theorem dX8_remove_75 : decode cX8_remove 75 = .ok (.iinc 2 1, 3) := by decide +kernel
theorem dX8_remove_78 : decode cX8_remove 78 = .ok (.goto (-37), 3) := by decide +kernel
theorem dX8_remove_81 : decode cX8_remove 81 = .ok (.aload_n 0, 1) := by decide +kernel
theorem dX8_remove_82 : decode cX8_remove 82 = .ok (.getfield 7, 3) := by decide +kernel
theorem dX8_remove_85 : decode cX8_remove 85 = .ok (.sipush 256, 3) := by decide +kernel
theorem dX8_remove_88 : decode cX8_remove 88 = .ok (.dup2, 1) := by decide +kernel
theorem dX8_remove_89 : decode cX8_remove 89 = .ok (.iaload, 1) := by decide +kernel
theorem dX8_remove_90 : decode cX8_remove 90 = .ok (.iconst 1, 1) := by decide +kernel
theorem dX8_remove_91 : decode cX8_remove 91 = .ok (.isub, 1) := by decide +kernel
theorem dX8_remove_92 : decode cX8_remove 92 = .ok (.iastore, 1) := by decide +kernel
theorem dX8_remove_93 : decode cX8_remove 93 = .ok (.iconst 0, 1) := by decide +kernel
theorem dX8_remove_94 : decode cX8_remove 94 = .ok (.istore_n 2, 1) := by decide +kernel
theorem dX8_remove_95 : decode cX8_remove 95 = .ok (.iload_n 2, 1) := by decide +kernel
theorem dX8_remove_96 : decode cX8_remove 96 = .ok (.iconst 3, 1) := by decide +kernel
theorem dX8_remove_97 : decode cX8_remove 97 = .ok (.if_icmp .ge 31, 3) := by decide +kernel
theorem dX8_remove_100 : decode cX8_remove 100 = .ok (.aload_n 0, 1) := by decide +kernel
theorem dX8_remove_101 : decode cX8_remove 101 = .ok (.getfield 7, 3) := by decide +kernel
theorem dX8_remove_104 : decode cX8_remove 104 = .ok (.sipush 257, 3) := by decide +kernel
theorem dX8_remove_107 : decode cX8_remove 107 = .ok (.iconst 3, 1) := by decide +kernel
theorem dX8_remove_108 : decode cX8_remove 108 = .ok (.aload_n 0, 1) := by decide +kernel
theorem dX8_remove_109 : decode cX8_remove 109 = .ok (.getfield 7, 3) := by decide +kernel
theorem dX8_remove_112 : decode cX8_remove 112 = .ok (.sipush 256, 3) := by decide +kernel
theorem dX8_remove_115 : decode cX8_remove 115 = .ok (.iaload, 1) := by decide +kernel
theorem dX8_remove_116 : decode cX8_remove 116 = .ok (.imul, 1) := by decide +kernel
theorem dX8_remove_117 : decode cX8_remove 117 = .ok (.iadd, 1) := by decide +kernel
theorem dX8_remove_118 : decode cX8_remove 118 = .ok (.iload_n 2, 1) := by decide +kernel
theorem dX8_remove_119 : decode cX8_remove 119 = .ok (.iadd, 1) := by decide +kernel
theorem dX8_remove_120 : decode cX8_remove 120 = .ok (.iconst 0, 1) := by decide +kernel
theorem dX8_remove_121 : decode cX8_remove 121 = .ok (.iastore, 1) := by decide +kernel
theorem dX8_remove_122 : decode cX8_remove 122 = .ok (.iinc 2 1, 3) := by decide +kernel
theorem dX8_remove_125 : decode cX8_remove 125 = .ok (.goto (-30), 3) := by decide +kernel
theorem dX8_remove_128 : decode cX8_remove 128 = .ok (.aload_n 0, 1) := by decide +kernel
theorem dX8_remove_129 : decode cX8_remove 129 = .ok (.getfield 7, 3) := by decide +kernel
theorem dX8_remove_132 : decode cX8_remove 132 = .ok (.sipush 256, 3) := by decide +kernel
theorem dX8_remove_135 : decode cX8_remove 135 = .ok (.iaload, 1) := by decide +kernel
theorem dX8_remove_136 : decode cX8_remove 136 = .ok (.ireturn, 1) := by decide +kernel
theorem dX8_settle_0 : decode cX8_settle 0 = .ok (.aload_n 0, 1) := by decide +kernel
theorem dX8_settle_1 : decode cX8_settle 1 = .ok (.iconst 0, 1) := by decide +kernel
theorem dX8_settle_2 : decode cX8_settle 2 = .ok (.putfield 47, 3) := by decide +kernel
theorem dX8_settle_5 : decode cX8_settle 5 = .ok (.aload_n 0, 1) := by decide +kernel
theorem dX8_settle_6 : decode cX8_settle 6 = .ok (.invokevirtual 148, 3) := by decide +kernel
theorem dX8_settle_9 : decode cX8_settle 9 = .ok (.aload_n 0, 1) := by decide +kernel
theorem dX8_settle_10 : decode cX8_settle 10 = .ok (.getfield 86, 3) := by decide +kernel
theorem dX8_settle_13 : decode cX8_settle 13 = .ok (.bipush 12, 2) := by decide +kernel
theorem dX8_settle_15 : decode cX8_settle 15 = .ok (.if_icmp .le 9, 3) := by decide +kernel
theorem dX8_settle_18 : decode cX8_settle 18 = .ok (.aload_n 0, 1) := by decide +kernel
theorem dX8_settle_19 : decode cX8_settle 19 = .ok (.iconst 1, 1) := by decide +kernel
theorem dX8_settle_20 : decode cX8_settle 20 = .ok (.invokevirtual 131, 3) := by decide +kernel
theorem dX8_settle_23 : decode cX8_settle 23 = .ok (.ireturn, 1) := by decide +kernel
theorem dX8_settle_24 : decode cX8_settle 24 = .ok (.aload_n 0, 1) := by decide +kernel
theorem dX8_settle_25 : decode cX8_settle 25 = .ok (.invokevirtual 138, 3) := by decide +kernel
theorem dX8_settle_28 : decode cX8_settle 28 = .ok (.iconst 0, 1) := by decide +kernel
theorem dX8_settle_29 : decode cX8_settle 29 = .ok (.istore_n 1, 1) := by decide +kernel
theorem dX8_settle_30 : decode cX8_settle 30 = .ok (.iload_n 1, 1) := by decide +kernel
theorem dX8_settle_31 : decode cX8_settle 31 = .ok (.sipush 256, 3) := by decide +kernel
theorem dX8_settle_34 : decode cX8_settle 34 = .ok (.if_icmp .ge 29, 3) := by decide +kernel
theorem dX8_settle_37 : decode cX8_settle 37 = .ok (.aload_n 0, 1) := by decide +kernel
theorem dX8_settle_38 : decode cX8_settle 38 = .ok (.getfield 7, 3) := by decide +kernel
theorem dX8_settle_41 : decode cX8_settle 41 = .ok (.iload_n 1, 1) := by decide +kernel
theorem dX8_settle_42 : decode cX8_settle 42 = .ok (.aload_n 0, 1) := by decide +kernel
theorem dX8_settle_43 : decode cX8_settle 43 = .ok (.getfield 19, 3) := by decide +kernel
theorem dX8_settle_46 : decode cX8_settle 46 = .ok (.iload_n 1, 1) := by decide +kernel
theorem dX8_settle_47 : decode cX8_settle 47 = .ok (.baload, 1) := by decide +kernel
theorem dX8_settle_48 : decode cX8_settle 48 = .ok (.ifCond .eq 7, 3) := by decide +kernel
theorem dX8_settle_51 : decode cX8_settle 51 = .ok (.iconst 1, 1) := by decide +kernel
theorem dX8_settle_52 : decode cX8_settle 52 = .ok (.goto 4, 3) := by decide +kernel
theorem dX8_settle_55 : decode cX8_settle 55 = .ok (.iconst 0, 1) := by decide +kernel
theorem dX8_settle_56 : decode cX8_settle 56 = .ok (.iastore, 1) := by decide +kernel
theorem dX8_settle_57 : decode cX8_settle 57 = .ok (.iinc 1 1, 3) := by decide +kernel
theorem dX8_settle_60 : decode cX8_settle 60 = .ok (.goto (-30), 3) := by decide +kernel
theorem dX8_settle_63 : decode cX8_settle 63 = .ok (.aload_n 0, 1) := by decide +kernel
theorem dX8_settle_64 : decode cX8_settle 64 = .ok (.getfield 86, 3) := by decide +kernel
theorem dX8_settle_67 : decode cX8_settle 67 = .ok (.ireturn, 1) := by decide +kernel
theorem dX8_append_0 : decode cX8_append 0 = .ok (.aload_n 0, 1) := by decide +kernel
theorem dX8_append_1 : decode cX8_append 1 = .ok (.iconst 0, 1) := by decide +kernel
theorem dX8_append_2 : decode cX8_append 2 = .ok (.putfield 47, 3) := by decide +kernel
theorem dX8_append_5 : decode cX8_append 5 = .ok (.iload_n 1, 1) := by decide +kernel
theorem dX8_append_6 : decode cX8_append 6 = .ok (.bipush 33, 2) := by decide +kernel
theorem dX8_append_8 : decode cX8_append 8 = .ok (.bipush 126, 2) := by decide +kernel
theorem dX8_append_10 : decode cX8_append 10 = .ok (.invokestatic 54, 3) := by decide +kernel
theorem dX8_append_13 : decode cX8_append 13 = .ok (.ifCond .ne 9, 3) := by decide +kernel
theorem dX8_append_16 : decode cX8_append 16 = .ok (.aload_n 0, 1) := by decide +kernel
theorem dX8_append_17 : decode cX8_append 17 = .ok (.iconst 1, 1) := by decide +kernel
theorem dX8_append_18 : decode cX8_append 18 = .ok (.invokevirtual 131, 3) := by decide +kernel
theorem dX8_append_21 : decode cX8_append 21 = .ok (.ireturn, 1) := by decide +kernel
theorem dX8_append_22 : decode cX8_append 22 = .ok (.aload_n 0, 1) := by decide +kernel
theorem dX8_append_23 : decode cX8_append 23 = .ok (.getfield 151, 3) := by decide +kernel
theorem dX8_append_26 : decode cX8_append 26 = .ok (.bipush 60, 2) := by decide +kernel
theorem dX8_append_28 : decode cX8_append 28 = .ok (.if_icmp .ne 9, 3) := by decide +kernel
theorem dX8_append_31 : decode cX8_append 31 = .ok (.aload_n 0, 1) := by decide +kernel
theorem dX8_append_32 : decode cX8_append 32 = .ok (.iconst 2, 1) := by decide +kernel
theorem dX8_append_33 : decode cX8_append 33 = .ok (.invokevirtual 131, 3) := by decide +kernel
theorem dX8_append_36 : decode cX8_append 36 = .ok (.ireturn, 1) := by decide +kernel
theorem dX8_append_37 : decode cX8_append 37 = .ok (.aload_n 0, 1) := by decide +kernel
theorem dX8_append_38 : decode cX8_append 38 = .ok (.getfield 16, 3) := by decide +kernel
theorem dX8_append_41 : decode cX8_append 41 = .ok (.aload_n 0, 1) := by decide +kernel
theorem dX8_append_42 : decode cX8_append 42 = .ok (.getfield 151, 3) := by decide +kernel
theorem dX8_append_45 : decode cX8_append 45 = .ok (.iload_n 1, 1) := by decide +kernel
theorem dX8_append_46 : decode cX8_append 46 = .ok (.iastore, 1) := by decide +kernel
theorem dX8_append_47 : decode cX8_append 47 = .ok (.aload_n 0, 1) := by decide +kernel
theorem dX8_append_48 : decode cX8_append 48 = .ok (.dup, 1) := by decide +kernel
theorem dX8_append_49 : decode cX8_append 49 = .ok (.getfield 151, 3) := by decide +kernel
theorem dX8_append_52 : decode cX8_append 52 = .ok (.iconst 1, 1) := by decide +kernel
theorem dX8_append_53 : decode cX8_append 53 = .ok (.iadd, 1) := by decide +kernel
theorem dX8_append_54 : decode cX8_append 54 = .ok (.putfield 151, 3) := by decide +kernel
theorem dX8_append_57 : decode cX8_append 57 = .ok (.aload_n 0, 1) := by decide +kernel
theorem dX8_append_58 : decode cX8_append 58 = .ok (.getfield 151, 3) := by decide +kernel
theorem dX8_append_61 : decode cX8_append 61 = .ok (.ireturn, 1) := by decide +kernel
theorem dX8_clearBuffer_0 : decode cX8_clearBuffer 0 = .ok (.aload_n 0, 1) := by decide +kernel
theorem dX8_clearBuffer_1 : decode cX8_clearBuffer 1 = .ok (.iconst 0, 1) := by decide +kernel
theorem dX8_clearBuffer_2 : decode cX8_clearBuffer 2 = .ok (.putfield 47, 3) := by decide +kernel
theorem dX8_clearBuffer_5 : decode cX8_clearBuffer 5 = .ok (.aload_n 0, 1) := by decide +kernel
theorem dX8_clearBuffer_6 : decode cX8_clearBuffer 6 = .ok (.getfield 151, 3) := by decide +kernel
theorem dX8_clearBuffer_9 : decode cX8_clearBuffer 9 = .ok (.istore_n 1, 1) := by decide +kernel
theorem dX8_clearBuffer_10 : decode cX8_clearBuffer 10 = .ok (.aload_n 0, 1) := by decide +kernel
theorem dX8_clearBuffer_11 : decode cX8_clearBuffer 11 = .ok (.iconst 0, 1) := by decide +kernel
theorem dX8_clearBuffer_12 : decode cX8_clearBuffer 12 = .ok (.putfield 151, 3) := by decide +kernel
theorem dX8_clearBuffer_15 : decode cX8_clearBuffer 15 = .ok (.iload_n 1, 1) := by decide +kernel
theorem dX8_clearBuffer_16 : decode cX8_clearBuffer 16 = .ok (.ireturn, 1) := by decide +kernel
theorem dX8_sign_0 : decode cX8_sign 0 = .ok (.aload_n 0, 1) := by decide +kernel
theorem dX8_sign_1 : decode cX8_sign 1 = .ok (.getfield 154, 3) := by decide +kernel
theorem dX8_sign_4 : decode cX8_sign 4 = .ok (.aload_n 0, 1) := by decide +kernel
theorem dX8_sign_5 : decode cX8_sign 5 = .ok (.getfield 151, 3) := by decide +kernel
theorem dX8_sign_8 : decode cX8_sign 8 = .ok (.if_icmp .ge 15, 3) := by decide +kernel
theorem dX8_sign_11 : decode cX8_sign 11 = .ok (.aload_n 0, 1) := by decide +kernel
theorem dX8_sign_12 : decode cX8_sign 12 = .ok (.getfield 16, 3) := by decide +kernel
theorem dX8_sign_15 : decode cX8_sign 15 = .ok (.aload_n 0, 1) := by decide +kernel
theorem dX8_sign_16 : decode cX8_sign 16 = .ok (.getfield 154, 3) := by decide +kernel
theorem dX8_sign_19 : decode cX8_sign 19 = .ok (.iaload, 1) := by decide +kernel
theorem dX8_sign_20 : decode cX8_sign 20 = .ok (.goto 4, 3) := by decide +kernel
theorem dX8_sign_23 : decode cX8_sign 23 = .ok (.iconst 0, 1) := by decide +kernel
theorem dX8_sign_24 : decode cX8_sign 24 = .ok (.ireturn, 1) := by decide +kernel
theorem dX8_takes_0 : decode cX8_takes 0 = .ok (.aload_n 0, 1) := by decide +kernel
theorem dX8_takes_1 : decode cX8_takes 1 = .ok (.getfield 157, 3) := by decide +kernel
theorem dX8_takes_4 : decode cX8_takes 4 = .ok (.ifCond .eq 15, 3) := by decide +kernel
theorem dX8_takes_7 : decode cX8_takes 7 = .ok (.aload_n 0, 1) := by decide +kernel
theorem dX8_takes_8 : decode cX8_takes 8 = .ok (.invokevirtual 161, 3) := by decide +kernel
theorem dX8_takes_11 : decode cX8_takes 11 = .ok (.iload_n 1, 1) := by decide +kernel
theorem dX8_takes_12 : decode cX8_takes 12 = .ok (.if_icmp .ne 7, 3) := by decide +kernel
theorem dX8_takes_15 : decode cX8_takes 15 = .ok (.iconst 1, 1) := by decide +kernel
theorem dX8_takes_16 : decode cX8_takes 16 = .ok (.goto 4, 3) := by decide +kernel
theorem dX8_takes_19 : decode cX8_takes 19 = .ok (.iconst 0, 1) := by decide +kernel
theorem dX8_takes_20 : decode cX8_takes 20 = .ok (.istore_n 2, 1) := by decide +kernel
theorem dX8_takes_21 : decode cX8_takes 21 = .ok (.aload_n 0, 1) := by decide +kernel
theorem dX8_takes_22 : decode cX8_takes 22 = .ok (.dup, 1) := by decide +kernel
theorem dX8_takes_23 : decode cX8_takes 23 = .ok (.getfield 154, 3) := by decide +kernel
theorem dX8_takes_26 : decode cX8_takes 26 = .ok (.iload_n 2, 1) := by decide +kernel
theorem dX8_takes_27 : decode cX8_takes 27 = .ok (.ifCond .eq 7, 3) := by decide +kernel
theorem dX8_takes_30 : decode cX8_takes 30 = .ok (.iconst 1, 1) := by decide +kernel
theorem dX8_takes_31 : decode cX8_takes 31 = .ok (.goto 4, 3) := by decide +kernel
theorem dX8_takes_34 : decode cX8_takes 34 = .ok (.iconst 0, 1) := by decide +kernel
theorem dX8_takes_35 : decode cX8_takes 35 = .ok (.iadd, 1) := by decide +kernel
theorem dX8_takes_36 : decode cX8_takes 36 = .ok (.putfield 154, 3) := by decide +kernel
theorem dX8_takes_39 : decode cX8_takes 39 = .ok (.iload_n 2, 1) := by decide +kernel
theorem dX8_takes_40 : decode cX8_takes 40 = .ok (.ireturn, 1) := by decide +kernel
theorem dX8_wantsTerm_0 : decode cX8_wantsTerm 0 = .ok (.aload_n 0, 1) := by decide +kernel
theorem dX8_wantsTerm_1 : decode cX8_wantsTerm 1 = .ok (.invokevirtual 161, 3) := by decide +kernel
theorem dX8_wantsTerm_4 : decode cX8_wantsTerm 4 = .ok (.istore_n 1, 1) := by decide +kernel
theorem dX8_wantsTerm_5 : decode cX8_wantsTerm 5 = .ok (.iload_n 1, 1) := by decide +kernel
theorem dX8_wantsTerm_6 : decode cX8_wantsTerm 6 = .ok (.bipush 48, 2) := by decide +kernel
theorem dX8_wantsTerm_8 : decode cX8_wantsTerm 8 = .ok (.bipush 51, 2) := by decide +kernel
theorem dX8_wantsTerm_10 : decode cX8_wantsTerm 10 = .ok (.invokestatic 54, 3) := by decide +kernel
theorem dX8_wantsTerm_13 : decode cX8_wantsTerm 13 = .ok (.ifCond .eq 10, 3) := by decide +kernel
theorem dX8_wantsTerm_16 : decode cX8_wantsTerm 16 = .ok (.iload_n 1, 1) := by decide +kernel
theorem dX8_wantsTerm_17 : decode cX8_wantsTerm 17 = .ok (.bipush 48, 2) := by decide +kernel
theorem dX8_wantsTerm_19 : decode cX8_wantsTerm 19 = .ok (.isub, 1) := by decide +kernel
theorem dX8_wantsTerm_20 : decode cX8_wantsTerm 20 = .ok (.goto 46, 3) := by decide +kernel
theorem dX8_wantsTerm_23 : decode cX8_wantsTerm 23 = .ok (.iload_n 1, 1) := by decide +kernel
theorem dX8_wantsTerm_24 : decode cX8_wantsTerm 24 = .ok (.bipush 120, 2) := by decide +kernel
theorem dX8_wantsTerm_26 : decode cX8_wantsTerm 26 = .ok (.if_icmp .ne 7, 3) := by decide +kernel
theorem dX8_wantsTerm_29 : decode cX8_wantsTerm 29 = .ok (.iconst 4, 1) := by decide +kernel
theorem dX8_wantsTerm_30 : decode cX8_wantsTerm 30 = .ok (.goto 36, 3) := by decide +kernel
theorem dX8_wantsTerm_33 : decode cX8_wantsTerm 33 = .ok (.iload_n 1, 1) := by decide +kernel
theorem dX8_wantsTerm_34 : decode cX8_wantsTerm 34 = .ok (.bipush 121, 2) := by decide +kernel
theorem dX8_wantsTerm_36 : decode cX8_wantsTerm 36 = .ok (.if_icmp .ne 7, 3) := by decide +kernel
theorem dX8_wantsTerm_39 : decode cX8_wantsTerm 39 = .ok (.iconst 5, 1) := by decide +kernel
theorem dX8_wantsTerm_40 : decode cX8_wantsTerm 40 = .ok (.goto 26, 3) := by decide +kernel
theorem dX8_wantsTerm_43 : decode cX8_wantsTerm 43 = .ok (.iload_n 1, 1) := by decide +kernel
theorem dX8_wantsTerm_44 : decode cX8_wantsTerm 44 = .ok (.bipush 122, 2) := by decide +kernel
theorem dX8_wantsTerm_46 : decode cX8_wantsTerm 46 = .ok (.if_icmp .ne 8, 3) := by decide +kernel
theorem dX8_wantsTerm_49 : decode cX8_wantsTerm 49 = .ok (.bipush 6, 2) := by decide +kernel
theorem dX8_wantsTerm_51 : decode cX8_wantsTerm 51 = .ok (.goto 15, 3) := by decide +kernel
theorem dX8_wantsTerm_54 : decode cX8_wantsTerm 54 = .ok (.iload_n 1, 1) := by decide +kernel
theorem dX8_wantsTerm_55 : decode cX8_wantsTerm 55 = .ok (.bipush 119, 2) := by decide +kernel
theorem dX8_wantsTerm_57 : decode cX8_wantsTerm 57 = .ok (.if_icmp .ne 8, 3) := by decide +kernel
theorem dX8_wantsTerm_60 : decode cX8_wantsTerm 60 = .ok (.bipush 7, 2) := by decide +kernel
theorem dX8_wantsTerm_62 : decode cX8_wantsTerm 62 = .ok (.goto 4, 3) := by decide +kernel
theorem dX8_wantsTerm_65 : decode cX8_wantsTerm 65 = .ok (.iconst (-1), 1) := by decide +kernel
theorem dX8_wantsTerm_66 : decode cX8_wantsTerm 66 = .ok (.istore_n 2, 1) := by decide +kernel
theorem dX8_wantsTerm_67 : decode cX8_wantsTerm 67 = .ok (.aload_n 0, 1) := by decide +kernel
theorem dX8_wantsTerm_68 : decode cX8_wantsTerm 68 = .ok (.aload_n 0, 1) := by decide +kernel
theorem dX8_wantsTerm_69 : decode cX8_wantsTerm 69 = .ok (.getfield 157, 3) := by decide +kernel
theorem dX8_wantsTerm_72 : decode cX8_wantsTerm 72 = .ok (.ifCond .eq 12, 3) := by decide +kernel
theorem dX8_wantsTerm_75 : decode cX8_wantsTerm 75 = .ok (.iload_n 2, 1) := by decide +kernel
theorem dX8_wantsTerm_76 : decode cX8_wantsTerm 76 = .ok (.iconst (-1), 1) := by decide +kernel
theorem dX8_wantsTerm_77 : decode cX8_wantsTerm 77 = .ok (.if_icmp .eq 7, 3) := by decide +kernel
theorem dX8_wantsTerm_80 : decode cX8_wantsTerm 80 = .ok (.iconst 1, 1) := by decide +kernel
theorem dX8_wantsTerm_81 : decode cX8_wantsTerm 81 = .ok (.goto 4, 3) := by decide +kernel
theorem dX8_wantsTerm_84 : decode cX8_wantsTerm 84 = .ok (.iconst 0, 1) := by decide +kernel
theorem dX8_wantsTerm_85 : decode cX8_wantsTerm 85 = .ok (.putfield 157, 3) := by decide +kernel
theorem dX8_wantsTerm_88 : decode cX8_wantsTerm 88 = .ok (.aload_n 0, 1) := by decide +kernel
theorem dX8_wantsTerm_89 : decode cX8_wantsTerm 89 = .ok (.dup, 1) := by decide +kernel
theorem dX8_wantsTerm_90 : decode cX8_wantsTerm 90 = .ok (.getfield 154, 3) := by decide +kernel
theorem dX8_wantsTerm_93 : decode cX8_wantsTerm 93 = .ok (.aload_n 0, 1) := by decide +kernel
theorem dX8_wantsTerm_94 : decode cX8_wantsTerm 94 = .ok (.getfield 157, 3) := by decide +kernel
theorem dX8_wantsTerm_97 : decode cX8_wantsTerm 97 = .ok (.ifCond .eq 7, 3) := by decide +kernel
theorem dX8_wantsTerm_100 : decode cX8_wantsTerm 100 = .ok (.iconst 1, 1) := by decide +kernel
theorem dX8_wantsTerm_101 : decode cX8_wantsTerm 101 = .ok (.goto 4, 3) := by decide +kernel
theorem dX8_wantsTerm_104 : decode cX8_wantsTerm 104 = .ok (.iconst 0, 1) := by decide +kernel
theorem dX8_wantsTerm_105 : decode cX8_wantsTerm 105 = .ok (.iadd, 1) := by decide +kernel
theorem dX8_wantsTerm_106 : decode cX8_wantsTerm 106 = .ok (.putfield 154, 3) := by decide +kernel
theorem dX8_wantsTerm_109 : decode cX8_wantsTerm 109 = .ok (.iload_n 2, 1) := by decide +kernel
theorem dX8_wantsTerm_110 : decode cX8_wantsTerm 110 = .ok (.ireturn, 1) := by decide +kernel
theorem dX8_wantsPart_0 : decode cX8_wantsPart 0 = .ok (.aload_n 0, 1) := by decide +kernel
theorem dX8_wantsPart_1 : decode cX8_wantsPart 1 = .ok (.invokevirtual 161, 3) := by decide +kernel
theorem dX8_wantsPart_4 : decode cX8_wantsPart 4 = .ok (.bipush 97, 2) := by decide +kernel
theorem dX8_wantsPart_6 : decode cX8_wantsPart 6 = .ok (.isub, 1) := by decide +kernel
theorem dX8_wantsPart_7 : decode cX8_wantsPart 7 = .ok (.istore_n 1, 1) := by decide +kernel
theorem dX8_wantsPart_8 : decode cX8_wantsPart 8 = .ok (.aload_n 0, 1) := by decide +kernel
theorem dX8_wantsPart_9 : decode cX8_wantsPart 9 = .ok (.aload_n 0, 1) := by decide +kernel
theorem dX8_wantsPart_10 : decode cX8_wantsPart 10 = .ok (.getfield 157, 3) := by decide +kernel
theorem dX8_wantsPart_13 : decode cX8_wantsPart 13 = .ok (.ifCond .eq 16, 3) := by decide +kernel
theorem dX8_wantsPart_16 : decode cX8_wantsPart 16 = .ok (.iload_n 1, 1) := by decide +kernel
theorem dX8_wantsPart_17 : decode cX8_wantsPart 17 = .ok (.iconst 0, 1) := by decide +kernel
theorem dX8_wantsPart_18 : decode cX8_wantsPart 18 = .ok (.iconst 3, 1) := by decide +kernel
theorem dX8_wantsPart_19 : decode cX8_wantsPart 19 = .ok (.invokestatic 54, 3) := by decide +kernel
theorem dX8_wantsPart_22 : decode cX8_wantsPart 22 = .ok (.ifCond .eq 7, 3) := by decide +kernel
theorem dX8_wantsPart_25 : decode cX8_wantsPart 25 = .ok (.iconst 1, 1) := by decide +kernel
theorem dX8_wantsPart_26 : decode cX8_wantsPart 26 = .ok (.goto 4, 3) := by decide +kernel
theorem dX8_wantsPart_29 : decode cX8_wantsPart 29 = .ok (.iconst 0, 1) := by decide +kernel
theorem dX8_wantsPart_30 : decode cX8_wantsPart 30 = .ok (.putfield 157, 3) := by decide +kernel
theorem dX8_wantsPart_33 : decode cX8_wantsPart 33 = .ok (.aload_n 0, 1) := by decide +kernel
theorem dX8_wantsPart_34 : decode cX8_wantsPart 34 = .ok (.dup, 1) := by decide +kernel
theorem dX8_wantsPart_35 : decode cX8_wantsPart 35 = .ok (.getfield 154, 3) := by decide +kernel
theorem dX8_wantsPart_38 : decode cX8_wantsPart 38 = .ok (.aload_n 0, 1) := by decide +kernel
theorem dX8_wantsPart_39 : decode cX8_wantsPart 39 = .ok (.getfield 157, 3) := by decide +kernel
theorem dX8_wantsPart_42 : decode cX8_wantsPart 42 = .ok (.ifCond .eq 7, 3) := by decide +kernel
theorem dX8_wantsPart_45 : decode cX8_wantsPart 45 = .ok (.iconst 1, 1) := by decide +kernel
theorem dX8_wantsPart_46 : decode cX8_wantsPart 46 = .ok (.goto 4, 3) := by decide +kernel
theorem dX8_wantsPart_49 : decode cX8_wantsPart 49 = .ok (.iconst 0, 1) := by decide +kernel
theorem dX8_wantsPart_50 : decode cX8_wantsPart 50 = .ok (.iadd, 1) := by decide +kernel
theorem dX8_wantsPart_51 : decode cX8_wantsPart 51 = .ok (.putfield 154, 3) := by decide +kernel
theorem dX8_wantsPart_54 : decode cX8_wantsPart 54 = .ok (.aload_n 0, 1) := by decide +kernel
theorem dX8_wantsPart_55 : decode cX8_wantsPart 55 = .ok (.invokevirtual 164, 3) := by decide +kernel
theorem dX8_wantsPart_58 : decode cX8_wantsPart 58 = .ok (.istore_n 2, 1) := by decide +kernel
theorem dX8_wantsPart_59 : decode cX8_wantsPart 59 = .ok (.aload_n 0, 1) := by decide +kernel
theorem dX8_wantsPart_60 : decode cX8_wantsPart 60 = .ok (.invokevirtual 164, 3) := by decide +kernel
theorem dX8_wantsPart_63 : decode cX8_wantsPart 63 = .ok (.istore_n 3, 1) := by decide +kernel
theorem dX8_wantsPart_64 : decode cX8_wantsPart 64 = .ok (.bipush 64, 2) := by decide +kernel
theorem dX8_wantsPart_66 : decode cX8_wantsPart 66 = .ok (.iload_n 1, 1) := by decide +kernel
theorem dX8_wantsPart_67 : decode cX8_wantsPart 67 = .ok (.imul, 1) := by decide +kernel
theorem dX8_wantsPart_68 : decode cX8_wantsPart 68 = .ok (.bipush 8, 2) := by decide +kernel
theorem dX8_wantsPart_70 : decode cX8_wantsPart 70 = .ok (.iload_n 2, 1) := by decide +kernel
theorem dX8_wantsPart_71 : decode cX8_wantsPart 71 = .ok (.imul, 1) := by decide +kernel
theorem dX8_wantsPart_72 : decode cX8_wantsPart 72 = .ok (.iadd, 1) := by decide +kernel
theorem dX8_wantsPart_73 : decode cX8_wantsPart 73 = .ok (.iload_n 3, 1) := by decide +kernel
theorem dX8_wantsPart_74 : decode cX8_wantsPart 74 = .ok (.iadd, 1) := by decide +kernel
theorem dX8_wantsPart_75 : decode cX8_wantsPart 75 = .ok (.ireturn, 1) := by decide +kernel
theorem dX8_readsLaw_0 : decode cX8_readsLaw 0 = .ok (.aload_n 0, 1) := by decide +kernel
theorem dX8_readsLaw_1 : decode cX8_readsLaw 1 = .ok (.invokevirtual 167, 3) := by decide +kernel
theorem dX8_readsLaw_4 : decode cX8_readsLaw 4 = .ok (.istore_n 1, 1) := by decide +kernel
theorem dX8_readsLaw_5 : decode cX8_readsLaw 5 = .ok (.iconst (-1), 1) := by decide +kernel
theorem dX8_readsLaw_6 : decode cX8_readsLaw 6 = .ok (.istore_n 2, 1) := by decide +kernel
theorem dX8_readsLaw_7 : decode cX8_readsLaw 7 = .ok (.iconst (-1), 1) := by decide +kernel
theorem dX8_readsLaw_8 : decode cX8_readsLaw 8 = .ok (.istore_n 3, 1) := by decide +kernel
theorem dX8_readsLaw_9 : decode cX8_readsLaw 9 = .ok (.aload_n 0, 1) := by decide +kernel
theorem dX8_readsLaw_10 : decode cX8_readsLaw 10 = .ok (.bipush 60, 2) := by decide +kernel
theorem dX8_readsLaw_12 : decode cX8_readsLaw 12 = .ok (.invokevirtual 170, 3) := by decide +kernel
theorem dX8_readsLaw_15 : decode cX8_readsLaw 15 = .ok (.ifCond .eq 25, 3) := by decide +kernel
theorem dX8_readsLaw_18 : decode cX8_readsLaw 18 = .ok (.aload_n 0, 1) := by decide +kernel
theorem dX8_readsLaw_19 : decode cX8_readsLaw 19 = .ok (.invokevirtual 167, 3) := by decide +kernel
theorem dX8_readsLaw_22 : decode cX8_readsLaw 22 = .ok (.istore_n 2, 1) := by decide +kernel
theorem dX8_readsLaw_23 : decode cX8_readsLaw 23 = .ok (.aload_n 0, 1) := by decide +kernel
theorem dX8_readsLaw_24 : decode cX8_readsLaw 24 = .ok (.bipush 38, 2) := by decide +kernel
theorem dX8_readsLaw_26 : decode cX8_readsLaw 26 = .ok (.invokevirtual 170, 3) := by decide +kernel
theorem dX8_readsLaw_29 : decode cX8_readsLaw 29 = .ok (.ifCond .eq 34, 3) := by decide +kernel
theorem dX8_readsLaw_32 : decode cX8_readsLaw 32 = .ok (.aload_n 0, 1) := by decide +kernel
theorem dX8_readsLaw_33 : decode cX8_readsLaw 33 = .ok (.invokevirtual 167, 3) := by decide +kernel
theorem dX8_readsLaw_36 : decode cX8_readsLaw 36 = .ok (.istore_n 3, 1) := by decide +kernel
theorem dX8_readsLaw_37 : decode cX8_readsLaw 37 = .ok (.goto 26, 3) := by decide +kernel
theorem dX8_readsLaw_40 : decode cX8_readsLaw 40 = .ok (.aload_n 0, 1) := by decide +kernel
theorem dX8_readsLaw_41 : decode cX8_readsLaw 41 = .ok (.aload_n 0, 1) := by decide +kernel
theorem dX8_readsLaw_42 : decode cX8_readsLaw 42 = .ok (.getfield 157, 3) := by decide +kernel
theorem dX8_readsLaw_45 : decode cX8_readsLaw 45 = .ok (.ifCond .eq 14, 3) := by decide +kernel
theorem dX8_readsLaw_48 : decode cX8_readsLaw 48 = .ok (.iload_n 1, 1) := by decide +kernel
theorem dX8_readsLaw_49 : decode cX8_readsLaw 49 = .ok (.invokestatic 58, 3) := by decide +kernel
theorem dX8_readsLaw_52 : decode cX8_readsLaw 52 = .ok (.ifCond .eq 7, 3) := by decide +kernel
theorem dX8_readsLaw_55 : decode cX8_readsLaw 55 = .ok (.iconst 1, 1) := by decide +kernel
theorem dX8_readsLaw_56 : decode cX8_readsLaw 56 = .ok (.goto 4, 3) := by decide +kernel
theorem dX8_readsLaw_59 : decode cX8_readsLaw 59 = .ok (.iconst 0, 1) := by decide +kernel
theorem dX8_readsLaw_60 : decode cX8_readsLaw 60 = .ok (.putfield 157, 3) := by decide +kernel
theorem dX8_readsLaw_63 : decode cX8_readsLaw 63 = .ok (.aload_n 0, 1) := by decide +kernel
theorem dX8_readsLaw_64 : decode cX8_readsLaw 64 = .ok (.getfield 157, 3) := by decide +kernel
theorem dX8_readsLaw_67 : decode cX8_readsLaw 67 = .ok (.ifCond .eq 53, 3) := by decide +kernel
theorem dX8_readsLaw_70 : decode cX8_readsLaw 70 = .ok (.aload_n 0, 1) := by decide +kernel
theorem dX8_readsLaw_71 : decode cX8_readsLaw 71 = .ok (.getfield 44, 3) := by decide +kernel
theorem dX8_readsLaw_74 : decode cX8_readsLaw 74 = .ok (.iconst 3, 1) := by decide +kernel
theorem dX8_readsLaw_75 : decode cX8_readsLaw 75 = .ok (.aload_n 0, 1) := by decide +kernel
theorem dX8_readsLaw_76 : decode cX8_readsLaw 76 = .ok (.getfield 173, 3) := by decide +kernel
theorem dX8_readsLaw_79 : decode cX8_readsLaw 79 = .ok (.imul, 1) := by decide +kernel
theorem dX8_readsLaw_80 : decode cX8_readsLaw 80 = .ok (.iload_n 1, 1) := by decide +kernel
theorem dX8_readsLaw_81 : decode cX8_readsLaw 81 = .ok (.iastore, 1) := by decide +kernel
theorem dX8_readsLaw_82 : decode cX8_readsLaw 82 = .ok (.aload_n 0, 1) := by decide +kernel
theorem dX8_readsLaw_83 : decode cX8_readsLaw 83 = .ok (.getfield 44, 3) := by decide +kernel
theorem dX8_readsLaw_86 : decode cX8_readsLaw 86 = .ok (.iconst 3, 1) := by decide +kernel
theorem dX8_readsLaw_87 : decode cX8_readsLaw 87 = .ok (.aload_n 0, 1) := by decide +kernel
theorem dX8_readsLaw_88 : decode cX8_readsLaw 88 = .ok (.getfield 173, 3) := by decide +kernel
theorem dX8_readsLaw_91 : decode cX8_readsLaw 91 = .ok (.imul, 1) := by decide +kernel
theorem dX8_readsLaw_92 : decode cX8_readsLaw 92 = .ok (.iconst 1, 1) := by decide +kernel
theorem dX8_readsLaw_93 : decode cX8_readsLaw 93 = .ok (.iadd, 1) := by decide +kernel
theorem dX8_readsLaw_94 : decode cX8_readsLaw 94 = .ok (.iload_n 2, 1) := by decide +kernel
theorem dX8_readsLaw_95 : decode cX8_readsLaw 95 = .ok (.iastore, 1) := by decide +kernel
theorem dX8_readsLaw_96 : decode cX8_readsLaw 96 = .ok (.aload_n 0, 1) := by decide +kernel
theorem dX8_readsLaw_97 : decode cX8_readsLaw 97 = .ok (.getfield 44, 3) := by decide +kernel
theorem dX8_readsLaw_100 : decode cX8_readsLaw 100 = .ok (.iconst 3, 1) := by decide +kernel
theorem dX8_readsLaw_101 : decode cX8_readsLaw 101 = .ok (.aload_n 0, 1) := by decide +kernel
theorem dX8_readsLaw_102 : decode cX8_readsLaw 102 = .ok (.getfield 173, 3) := by decide +kernel
theorem dX8_readsLaw_105 : decode cX8_readsLaw 105 = .ok (.imul, 1) := by decide +kernel
theorem dX8_readsLaw_106 : decode cX8_readsLaw 106 = .ok (.iconst 2, 1) := by decide +kernel
theorem dX8_readsLaw_107 : decode cX8_readsLaw 107 = .ok (.iadd, 1) := by decide +kernel
theorem dX8_readsLaw_108 : decode cX8_readsLaw 108 = .ok (.iload_n 3, 1) := by decide +kernel
theorem dX8_readsLaw_109 : decode cX8_readsLaw 109 = .ok (.iastore, 1) := by decide +kernel
theorem dX8_readsLaw_110 : decode cX8_readsLaw 110 = .ok (.aload_n 0, 1) := by decide +kernel
theorem dX8_readsLaw_111 : decode cX8_readsLaw 111 = .ok (.dup, 1) := by decide +kernel
theorem dX8_readsLaw_112 : decode cX8_readsLaw 112 = .ok (.getfield 173, 3) := by decide +kernel
theorem dX8_readsLaw_115 : decode cX8_readsLaw 115 = .ok (.iconst 1, 1) := by decide +kernel
theorem dX8_readsLaw_116 : decode cX8_readsLaw 116 = .ok (.iadd, 1) := by decide +kernel
theorem dX8_readsLaw_117 : decode cX8_readsLaw 117 = .ok (.putfield 173, 3) := by decide +kernel
theorem dX8_readsLaw_120 : decode cX8_readsLaw 120 = .ok (.return_, 1) := by decide +kernel
theorem dX8_readsAll_0 : decode cX8_readsAll 0 = .ok (.aload_n 0, 1) := by decide +kernel
theorem dX8_readsAll_1 : decode cX8_readsAll 1 = .ok (.iconst 0, 1) := by decide +kernel
theorem dX8_readsAll_2 : decode cX8_readsAll 2 = .ok (.putfield 154, 3) := by decide +kernel
theorem dX8_readsAll_5 : decode cX8_readsAll 5 = .ok (.aload_n 0, 1) := by decide +kernel
theorem dX8_readsAll_6 : decode cX8_readsAll 6 = .ok (.iconst 1, 1) := by decide +kernel
theorem dX8_readsAll_7 : decode cX8_readsAll 7 = .ok (.putfield 157, 3) := by decide +kernel
theorem dX8_readsAll_10 : decode cX8_readsAll 10 = .ok (.aload_n 0, 1) := by decide +kernel
theorem dX8_readsAll_11 : decode cX8_readsAll 11 = .ok (.iconst 0, 1) := by decide +kernel
theorem dX8_readsAll_12 : decode cX8_readsAll 12 = .ok (.putfield 173, 3) := by decide +kernel
theorem dX8_readsAll_15 : decode cX8_readsAll 15 = .ok (.aload_n 0, 1) := by decide +kernel
theorem dX8_readsAll_16 : decode cX8_readsAll 16 = .ok (.invokevirtual 176, 3) := by decide +kernel
theorem dX8_readsAll_19 : decode cX8_readsAll 19 = .ok (.aload_n 0, 1) := by decide +kernel
theorem dX8_readsAll_20 : decode cX8_readsAll 20 = .ok (.getfield 157, 3) := by decide +kernel
theorem dX8_readsAll_23 : decode cX8_readsAll 23 = .ok (.ifCond .eq 38, 3) := by decide +kernel
theorem dX8_readsAll_26 : decode cX8_readsAll 26 = .ok (.aload_n 0, 1) := by decide +kernel
theorem dX8_readsAll_27 : decode cX8_readsAll 27 = .ok (.getfield 154, 3) := by decide +kernel
theorem dX8_readsAll_30 : decode cX8_readsAll 30 = .ok (.aload_n 0, 1) := by decide +kernel
theorem dX8_readsAll_31 : decode cX8_readsAll 31 = .ok (.getfield 151, 3) := by decide +kernel
theorem dX8_readsAll_34 : decode cX8_readsAll 34 = .ok (.if_icmp .ge 27, 3) := by decide +kernel
theorem dX8_readsAll_37 : decode cX8_readsAll 37 = .ok (.aload_n 0, 1) := by decide +kernel
theorem dX8_readsAll_38 : decode cX8_readsAll 38 = .ok (.aload_n 0, 1) := by decide +kernel
theorem dX8_readsAll_39 : decode cX8_readsAll 39 = .ok (.bipush 59, 2) := by decide +kernel
theorem dX8_readsAll_41 : decode cX8_readsAll 41 = .ok (.invokevirtual 170, 3) := by decide +kernel
theorem dX8_readsAll_44 : decode cX8_readsAll 44 = .ok (.putfield 157, 3) := by decide +kernel
theorem dX8_readsAll_47 : decode cX8_readsAll 47 = .ok (.aload_n 0, 1) := by decide +kernel
theorem dX8_readsAll_48 : decode cX8_readsAll 48 = .ok (.getfield 157, 3) := by decide +kernel
theorem dX8_readsAll_51 : decode cX8_readsAll 51 = .ok (.ifCond .eq (-32), 3) := by decide +kernel
theorem dX8_readsAll_54 : decode cX8_readsAll 54 = .ok (.aload_n 0, 1) := by decide +kernel
theorem dX8_readsAll_55 : decode cX8_readsAll 55 = .ok (.invokevirtual 176, 3) := by decide +kernel
theorem dX8_readsAll_58 : decode cX8_readsAll 58 = .ok (.goto (-39), 3) := by decide +kernel
theorem dX8_readsAll_61 : decode cX8_readsAll 61 = .ok (.return_, 1) := by decide +kernel
theorem dX8_firstError_0 : decode cX8_firstError 0 = .ok (.aload_n 0, 1) := by decide +kernel
theorem dX8_firstError_1 : decode cX8_firstError 1 = .ok (.iconst 0, 1) := by decide +kernel
theorem dX8_firstError_2 : decode cX8_firstError 2 = .ok (.putfield 47, 3) := by decide +kernel
theorem dX8_firstError_5 : decode cX8_firstError 5 = .ok (.aload_n 0, 1) := by decide +kernel
theorem dX8_firstError_6 : decode cX8_firstError 6 = .ok (.invokevirtual 179, 3) := by decide +kernel
theorem dX8_firstError_9 : decode cX8_firstError 9 = .ok (.aload_n 0, 1) := by decide +kernel
theorem dX8_firstError_10 : decode cX8_firstError 10 = .ok (.getfield 154, 3) := by decide +kernel
theorem dX8_firstError_13 : decode cX8_firstError 13 = .ok (.ireturn, 1) := by decide +kernel
theorem dX8_hasRoom_0 : decode cX8_hasRoom 0 = .ok (.aload_n 0, 1) := by decide +kernel
theorem dX8_hasRoom_1 : decode cX8_hasRoom 1 = .ok (.getfield 7, 3) := by decide +kernel
theorem dX8_hasRoom_4 : decode cX8_hasRoom 4 = .ok (.sipush 256, 3) := by decide +kernel
theorem dX8_hasRoom_7 : decode cX8_hasRoom 7 = .ok (.iaload, 1) := by decide +kernel
theorem dX8_hasRoom_8 : decode cX8_hasRoom 8 = .ok (.istore_n 1, 1) := by decide +kernel
theorem dX8_hasRoom_9 : decode cX8_hasRoom 9 = .ok (.aload_n 0, 1) := by decide +kernel
theorem dX8_hasRoom_10 : decode cX8_hasRoom 10 = .ok (.invokevirtual 134, 3) := by decide +kernel
theorem dX8_hasRoom_13 : decode cX8_hasRoom 13 = .ok (.istore_n 2, 1) := by decide +kernel
theorem dX8_hasRoom_14 : decode cX8_hasRoom 14 = .ok (.iconst 0, 1) := by decide +kernel
theorem dX8_hasRoom_15 : decode cX8_hasRoom 15 = .ok (.istore_n 3, 1) := by decide +kernel
theorem dX8_hasRoom_16 : decode cX8_hasRoom 16 = .ok (.iload_n 3, 1) := by decide +kernel
theorem dX8_hasRoom_17 : decode cX8_hasRoom 17 = .ok (.aload_n 0, 1) := by decide +kernel
theorem dX8_hasRoom_18 : decode cX8_hasRoom 18 = .ok (.getfield 173, 3) := by decide +kernel
theorem dX8_hasRoom_21 : decode cX8_hasRoom 21 = .ok (.if_icmp .ge 157, 3) := by decide +kernel
theorem dX8_hasRoom_24 : decode cX8_hasRoom 24 = .ok (.aload_n 0, 1) := by decide +kernel
theorem dX8_hasRoom_25 : decode cX8_hasRoom 25 = .ok (.getfield 44, 3) := by decide +kernel
theorem dX8_hasRoom_28 : decode cX8_hasRoom 28 = .ok (.iconst 3, 1) := by decide +kernel
theorem dX8_hasRoom_29 : decode cX8_hasRoom 29 = .ok (.iload_n 3, 1) := by decide +kernel
theorem dX8_hasRoom_30 : decode cX8_hasRoom 30 = .ok (.imul, 1) := by decide +kernel
theorem dX8_hasRoom_31 : decode cX8_hasRoom 31 = .ok (.iconst 1, 1) := by decide +kernel
theorem dX8_hasRoom_32 : decode cX8_hasRoom 32 = .ok (.iadd, 1) := by decide +kernel
theorem dX8_hasRoom_33 : decode cX8_hasRoom 33 = .ok (.iaload, 1) := by decide +kernel
theorem dX8_hasRoom_34 : decode cX8_hasRoom 34 = .ok (.iconst (-1), 1) := by decide +kernel
theorem dX8_hasRoom_35 : decode cX8_hasRoom 35 = .ok (.if_icmp .eq 7, 3) := by decide +kernel
theorem dX8_hasRoom_38 : decode cX8_hasRoom 38 = .ok (.iconst 1, 1) := by decide +kernel
theorem dX8_hasRoom_39 : decode cX8_hasRoom 39 = .ok (.goto 4, 3) := by decide +kernel
theorem dX8_hasRoom_42 : decode cX8_hasRoom 42 = .ok (.iconst 0, 1) := by decide +kernel
theorem dX8_hasRoom_43 : decode cX8_hasRoom 43 = .ok (.istore 4, 2) := by decide +kernel
theorem dX8_hasRoom_45 : decode cX8_hasRoom 45 = .ok (.iload 4, 2) := by decide +kernel
theorem dX8_hasRoom_47 : decode cX8_hasRoom 47 = .ok (.ifCond .ne 24, 3) := by decide +kernel
theorem dX8_hasRoom_50 : decode cX8_hasRoom 50 = .ok (.aload_n 0, 1) := by decide +kernel
theorem dX8_hasRoom_51 : decode cX8_hasRoom 51 = .ok (.getfield 7, 3) := by decide +kernel
theorem dX8_hasRoom_54 : decode cX8_hasRoom 54 = .ok (.aload_n 0, 1) := by decide +kernel
theorem dX8_hasRoom_55 : decode cX8_hasRoom 55 = .ok (.getfield 44, 3) := by decide +kernel
theorem dX8_hasRoom_58 : decode cX8_hasRoom 58 = .ok (.iconst 3, 1) := by decide +kernel
theorem dX8_hasRoom_59 : decode cX8_hasRoom 59 = .ok (.iload_n 3, 1) := by decide +kernel
theorem dX8_hasRoom_60 : decode cX8_hasRoom 60 = .ok (.imul, 1) := by decide +kernel
theorem dX8_hasRoom_61 : decode cX8_hasRoom 61 = .ok (.iaload, 1) := by decide +kernel
theorem dX8_hasRoom_62 : decode cX8_hasRoom 62 = .ok (.iaload, 1) := by decide +kernel
theorem dX8_hasRoom_63 : decode cX8_hasRoom 63 = .ok (.iconst 1, 1) := by decide +kernel
theorem dX8_hasRoom_64 : decode cX8_hasRoom 64 = .ok (.if_icmp .ne 7, 3) := by decide +kernel
theorem dX8_hasRoom_67 : decode cX8_hasRoom 67 = .ok (.iconst 1, 1) := by decide +kernel
theorem dX8_hasRoom_68 : decode cX8_hasRoom 68 = .ok (.goto 4, 3) := by decide +kernel
theorem dX8_hasRoom_71 : decode cX8_hasRoom 71 = .ok (.iconst 0, 1) := by decide +kernel
theorem dX8_hasRoom_72 : decode cX8_hasRoom 72 = .ok (.istore 5, 2) := by decide +kernel
theorem dX8_hasRoom_74 : decode cX8_hasRoom 74 = .ok (.iconst 0, 1) := by decide +kernel
theorem dX8_hasRoom_75 : decode cX8_hasRoom 75 = .ok (.istore 6, 2) := by decide +kernel
theorem dX8_hasRoom_77 : decode cX8_hasRoom 77 = .ok (.iload 6, 2) := by decide +kernel
theorem dX8_hasRoom_79 : decode cX8_hasRoom 79 = .ok (.iload_n 3, 1) := by decide +kernel
theorem dX8_hasRoom_80 : decode cX8_hasRoom 80 = .ok (.if_icmp .ge 61, 3) := by decide +kernel
theorem dX8_hasRoom_83 : decode cX8_hasRoom 83 = .ok (.iload 5, 2) := by decide +kernel
theorem dX8_hasRoom_85 : decode cX8_hasRoom 85 = .ok (.ifCond .ne 43, 3) := by decide +kernel
theorem dX8_hasRoom_88 : decode cX8_hasRoom 88 = .ok (.iload 4, 2) := by decide +kernel
theorem dX8_hasRoom_90 : decode cX8_hasRoom 90 = .ok (.ifCond .ne 42, 3) := by decide +kernel
theorem dX8_hasRoom_93 : decode cX8_hasRoom 93 = .ok (.aload_n 0, 1) := by decide +kernel
theorem dX8_hasRoom_94 : decode cX8_hasRoom 94 = .ok (.getfield 44, 3) := by decide +kernel
theorem dX8_hasRoom_97 : decode cX8_hasRoom 97 = .ok (.iconst 3, 1) := by decide +kernel
theorem dX8_hasRoom_98 : decode cX8_hasRoom 98 = .ok (.iload 6, 2) := by decide +kernel
theorem dX8_hasRoom_100 : decode cX8_hasRoom 100 = .ok (.imul, 1) := by decide +kernel
theorem dX8_hasRoom_101 : decode cX8_hasRoom 101 = .ok (.iconst 1, 1) := by decide +kernel
theorem dX8_hasRoom_102 : decode cX8_hasRoom 102 = .ok (.iadd, 1) := by decide +kernel
theorem dX8_hasRoom_103 : decode cX8_hasRoom 103 = .ok (.iaload, 1) := by decide +kernel
theorem dX8_hasRoom_104 : decode cX8_hasRoom 104 = .ok (.iconst (-1), 1) := by decide +kernel
theorem dX8_hasRoom_105 : decode cX8_hasRoom 105 = .ok (.if_icmp .ne 27, 3) := by decide +kernel
theorem dX8_hasRoom_108 : decode cX8_hasRoom 108 = .ok (.aload_n 0, 1) := by decide +kernel
theorem dX8_hasRoom_109 : decode cX8_hasRoom 109 = .ok (.getfield 44, 3) := by decide +kernel
theorem dX8_hasRoom_112 : decode cX8_hasRoom 112 = .ok (.iconst 3, 1) := by decide +kernel
theorem dX8_hasRoom_113 : decode cX8_hasRoom 113 = .ok (.iload 6, 2) := by decide +kernel
theorem dX8_hasRoom_115 : decode cX8_hasRoom 115 = .ok (.imul, 1) := by decide +kernel
theorem dX8_hasRoom_116 : decode cX8_hasRoom 116 = .ok (.iaload, 1) := by decide +kernel
theorem dX8_hasRoom_117 : decode cX8_hasRoom 117 = .ok (.aload_n 0, 1) := by decide +kernel
theorem dX8_hasRoom_118 : decode cX8_hasRoom 118 = .ok (.getfield 44, 3) := by decide +kernel
theorem dX8_hasRoom_121 : decode cX8_hasRoom 121 = .ok (.iconst 3, 1) := by decide +kernel
theorem dX8_hasRoom_122 : decode cX8_hasRoom 122 = .ok (.iload_n 3, 1) := by decide +kernel
theorem dX8_hasRoom_123 : decode cX8_hasRoom 123 = .ok (.imul, 1) := by decide +kernel
theorem dX8_hasRoom_124 : decode cX8_hasRoom 124 = .ok (.iaload, 1) := by decide +kernel
theorem dX8_hasRoom_125 : decode cX8_hasRoom 125 = .ok (.if_icmp .ne 7, 3) := by decide +kernel
theorem dX8_hasRoom_128 : decode cX8_hasRoom 128 = .ok (.iconst 1, 1) := by decide +kernel
theorem dX8_hasRoom_129 : decode cX8_hasRoom 129 = .ok (.goto 4, 3) := by decide +kernel
theorem dX8_hasRoom_132 : decode cX8_hasRoom 132 = .ok (.iconst 0, 1) := by decide +kernel
theorem dX8_hasRoom_133 : decode cX8_hasRoom 133 = .ok (.istore 5, 2) := by decide +kernel
theorem dX8_hasRoom_135 : decode cX8_hasRoom 135 = .ok (.iinc 6 1, 3) := by decide +kernel
theorem dX8_hasRoom_138 : decode cX8_hasRoom 138 = .ok (.goto (-61), 3) := by decide +kernel
theorem dX8_hasRoom_141 : decode cX8_hasRoom 141 = .ok (.iload_n 1, 1) := by decide +kernel
theorem dX8_hasRoom_142 : decode cX8_hasRoom 142 = .ok (.iload 4, 2) := by decide +kernel
theorem dX8_hasRoom_144 : decode cX8_hasRoom 144 = .ok (.ifCond .eq 7, 3) := by decide +kernel
theorem dX8_hasRoom_147 : decode cX8_hasRoom 147 = .ok (.iconst 1, 1) := by decide +kernel
theorem dX8_hasRoom_148 : decode cX8_hasRoom 148 = .ok (.goto 4, 3) := by decide +kernel
theorem dX8_hasRoom_151 : decode cX8_hasRoom 151 = .ok (.iconst 0, 1) := by decide +kernel
theorem dX8_hasRoom_152 : decode cX8_hasRoom 152 = .ok (.iadd, 1) := by decide +kernel
theorem dX8_hasRoom_153 : decode cX8_hasRoom 153 = .ok (.istore_n 1, 1) := by decide +kernel
theorem dX8_hasRoom_154 : decode cX8_hasRoom 154 = .ok (.iload_n 2, 1) := by decide +kernel
theorem dX8_hasRoom_155 : decode cX8_hasRoom 155 = .ok (.iload 4, 2) := by decide +kernel
