theorem dX0_withFact_0 : decode cX0_withFact 0 = .ok (.lload_n 0, 1) := by decide +kernel
theorem dX0_withFact_1 : decode cX0_withFact 1 = .ok (.iload_n 2, 1) := by decide +kernel
theorem dX0_withFact_2 : decode cX0_withFact 2 = .ok (.invokestatic 9, 3) := by decide +kernel
theorem dX0_withFact_5 : decode cX0_withFact 5 = .ok (.iload_n 3, 1) := by decide +kernel
theorem dX0_withFact_6 : decode cX0_withFact 6 = .ok (.invokestatic 9, 3) := by decide +kernel
theorem dX0_withFact_9 : decode cX0_withFact 9 = .ok (.iload 4, 2) := by decide +kernel
theorem dX0_withFact_11 : decode cX0_withFact 11 = .ok (.invokestatic 15, 3) := by decide +kernel
theorem dX0_withFact_14 : decode cX0_withFact 14 = .ok (.invokestatic 21, 3) := by decide +kernel
theorem dX0_withFact_17 : decode cX0_withFact 17 = .ok (.lstore 5, 2) := by decide +kernel
theorem dX0_withFact_19 : decode cX0_withFact 19 = .ok (.lload 5, 2) := by decide +kernel
theorem dX0_withFact_21 : decode cX0_withFact 21 = .ok (.ldc2_w 25, 3) := by decide +kernel
theorem dX0_withFact_24 : decode cX0_withFact 24 = .ok (.lcmp, 1) := by decide +kernel
theorem dX0_withFact_25 : decode cX0_withFact 25 = .ok (.ifCond .ne 7, 3) := by decide +kernel
theorem dX0_withFact_28 : decode cX0_withFact 28 = .ok (.ldc2_w 25, 3) := by decide +kernel
theorem dX0_withFact_31 : decode cX0_withFact 31 = .ok (.lreturn, 1) := by decide +kernel
theorem dX0_withFact_32 : decode cX0_withFact 32 = .ok (.lload 5, 2) := by decide +kernel
theorem dX0_withFact_34 : decode cX0_withFact 34 = .ok (.iload_n 2, 1) := by decide +kernel
theorem dX0_withFact_35 : decode cX0_withFact 35 = .ok (.invokestatic 27, 3) := by decide +kernel
theorem dX0_withFact_38 : decode cX0_withFact 38 = .ok (.iload_n 3, 1) := by decide +kernel
theorem dX0_withFact_39 : decode cX0_withFact 39 = .ok (.invokestatic 27, 3) := by decide +kernel
theorem dX0_withFact_42 : decode cX0_withFact 42 = .ok (.iload 4, 2) := by decide +kernel
theorem dX0_withFact_44 : decode cX0_withFact 44 = .ok (.invokestatic 15, 3) := by decide +kernel
theorem dX0_withFact_47 : decode cX0_withFact 47 = .ok (.invokestatic 21, 3) := by decide +kernel
theorem dX0_withFact_50 : decode cX0_withFact 50 = .ok (.lreturn, 1) := by decide +kernel
theorem dX0_result_0 : decode cX0_result 0 = .ok (.lload_n 0, 1) := by decide +kernel
theorem dX0_result_1 : decode cX0_result 1 = .ok (.iload_n 2, 1) := by decide +kernel
theorem dX0_result_2 : decode cX0_result 2 = .ok (.invokestatic 9, 3) := by decide +kernel
theorem dX0_result_5 : decode cX0_result 5 = .ok (.invokestatic 30, 3) := by decide +kernel
theorem dX0_result_8 : decode cX0_result 8 = .ok (.istore_n 3, 1) := by decide +kernel
theorem dX0_result_9 : decode cX0_result 9 = .ok (.lload_n 0, 1) := by decide +kernel
theorem dX0_result_10 : decode cX0_result 10 = .ok (.iload_n 2, 1) := by decide +kernel
theorem dX0_result_11 : decode cX0_result 11 = .ok (.invokestatic 27, 3) := by decide +kernel
theorem dX0_result_14 : decode cX0_result 14 = .ok (.invokestatic 30, 3) := by decide +kernel
theorem dX0_result_17 : decode cX0_result 17 = .ok (.istore 4, 2) := by decide +kernel
theorem dX0_result_19 : decode cX0_result 19 = .ok (.iload_n 3, 1) := by decide +kernel
theorem dX0_result_20 : decode cX0_result 20 = .ok (.iconst 4, 1) := by decide +kernel
theorem dX0_result_21 : decode cX0_result 21 = .ok (.if_icmp .ge 7, 3) := by decide +kernel
theorem dX0_result_24 : decode cX0_result 24 = .ok (.iload_n 3, 1) := by decide +kernel
theorem dX0_result_25 : decode cX0_result 25 = .ok (.goto 4, 3) := by decide +kernel
theorem dX0_result_28 : decode cX0_result 28 = .ok (.iconst 4, 1) := by decide +kernel
theorem dX0_result_29 : decode cX0_result 29 = .ok (.istore 5, 2) := by decide +kernel
theorem dX0_result_31 : decode cX0_result 31 = .ok (.iload 4, 2) := by decide +kernel
theorem dX0_result_33 : decode cX0_result 33 = .ok (.istore 6, 2) := by decide +kernel
theorem dX0_result_35 : decode cX0_result 35 = .ok (.iload 4, 2) := by decide +kernel
theorem dX0_result_37 : decode cX0_result 37 = .ok (.iconst 4, 1) := by decide +kernel
theorem dX0_result_38 : decode cX0_result 38 = .ok (.if_icmp .lt 21, 3) := by decide +kernel
theorem dX0_result_41 : decode cX0_result 41 = .ok (.iload_n 3, 1) := by decide +kernel
theorem dX0_result_42 : decode cX0_result 42 = .ok (.iconst 4, 1) := by decide +kernel
theorem dX0_result_43 : decode cX0_result 43 = .ok (.if_icmp .lt 9, 3) := by decide +kernel
theorem dX0_result_46 : decode cX0_result 46 = .ok (.iload_n 3, 1) := by decide +kernel
theorem dX0_result_47 : decode cX0_result 47 = .ok (.iload 4, 2) := by decide +kernel
theorem dX0_result_49 : decode cX0_result 49 = .ok (.if_icmp .ne 7, 3) := by decide +kernel
theorem dX0_result_52 : decode cX0_result 52 = .ok (.iconst 4, 1) := by decide +kernel
theorem dX0_result_53 : decode cX0_result 53 = .ok (.goto 4, 3) := by decide +kernel
theorem dX0_result_56 : decode cX0_result 56 = .ok (.iconst 5, 1) := by decide +kernel
theorem dX0_result_57 : decode cX0_result 57 = .ok (.istore 6, 2) := by decide +kernel
theorem dX0_result_59 : decode cX0_result 59 = .ok (.iload_n 2, 1) := by decide +kernel
theorem dX0_result_60 : decode cX0_result 60 = .ok (.invokestatic 34, 3) := by decide +kernel
theorem dX0_result_63 : decode cX0_result 63 = .ok (.iload 5, 2) := by decide +kernel
theorem dX0_result_65 : decode cX0_result 65 = .ok (.iload 6, 2) := by decide +kernel
theorem dX0_result_67 : decode cX0_result 67 = .ok (.invokestatic 37, 3) := by decide +kernel
theorem dX0_result_70 : decode cX0_result 70 = .ok (.ireturn, 1) := by decide +kernel
theorem dX0_ownTerm_0 : decode cX0_ownTerm 0 = .ok (.iload_n 0, 1) := by decide +kernel
theorem dX0_ownTerm_1 : decode cX0_ownTerm 1 = .ok (.iconst 4, 1) := by decide +kernel
theorem dX0_ownTerm_2 : decode cX0_ownTerm 2 = .ok (.if_icmp .ge 7, 3) := by decide +kernel
theorem dX0_ownTerm_5 : decode cX0_ownTerm 5 = .ok (.iload_n 0, 1) := by decide +kernel
theorem dX0_ownTerm_6 : decode cX0_ownTerm 6 = .ok (.goto 6, 3) := by decide +kernel
theorem dX0_ownTerm_9 : decode cX0_ownTerm 9 = .ok (.iload_n 0, 1) := by decide +kernel
theorem dX0_ownTerm_10 : decode cX0_ownTerm 10 = .ok (.iload_n 1, 1) := by decide +kernel
theorem dX0_ownTerm_11 : decode cX0_ownTerm 11 = .ok (.iadd, 1) := by decide +kernel
theorem dX0_ownTerm_12 : decode cX0_ownTerm 12 = .ok (.ireturn, 1) := by decide +kernel
theorem dX0_become_0 : decode cX0_become 0 = .ok (.lload_n 0, 1) := by decide +kernel
theorem dX0_become_1 : decode cX0_become 1 = .ok (.iconst 4, 1) := by decide +kernel
theorem dX0_become_2 : decode cX0_become 2 = .ok (.iload_n 2, 1) := by decide +kernel
theorem dX0_become_3 : decode cX0_become 3 = .ok (.imul, 1) := by decide +kernel
theorem dX0_become_4 : decode cX0_become 4 = .ok (.lushr, 1) := by decide +kernel
theorem dX0_become_5 : decode cX0_become 5 = .ok (.l2i, 1) := by decide +kernel
theorem dX0_become_6 : decode cX0_become 6 = .ok (.bipush 15, 2) := by decide +kernel
theorem dX0_become_8 : decode cX0_become 8 = .ok (.iand, 1) := by decide +kernel
theorem dX0_become_9 : decode cX0_become 9 = .ok (.ireturn, 1) := by decide +kernel
theorem dX0_joined_0 : decode cX0_joined 0 = .ok (.lload_n 0, 1) := by decide +kernel
theorem dX0_joined_1 : decode cX0_joined 1 = .ok (.iload_n 2, 1) := by decide +kernel
theorem dX0_joined_2 : decode cX0_joined 2 = .ok (.invokestatic 30, 3) := by decide +kernel
theorem dX0_joined_5 : decode cX0_joined 5 = .ok (.istore 4, 2) := by decide +kernel
theorem dX0_joined_7 : decode cX0_joined 7 = .ok (.lload_n 0, 1) := by decide +kernel
theorem dX0_joined_8 : decode cX0_joined 8 = .ok (.iload_n 3, 1) := by decide +kernel
theorem dX0_joined_9 : decode cX0_joined 9 = .ok (.invokestatic 30, 3) := by decide +kernel
theorem dX0_joined_12 : decode cX0_joined 12 = .ok (.istore 5, 2) := by decide +kernel
theorem dX0_joined_14 : decode cX0_joined 14 = .ok (.iload 4, 2) := by decide +kernel
theorem dX0_joined_16 : decode cX0_joined 16 = .ok (.iload 5, 2) := by decide +kernel
theorem dX0_joined_18 : decode cX0_joined 18 = .ok (.if_icmp .ne 5, 3) := by decide +kernel
theorem dX0_joined_21 : decode cX0_joined 21 = .ok (.lload_n 0, 1) := by decide +kernel
theorem dX0_joined_22 : decode cX0_joined 22 = .ok (.lreturn, 1) := by decide +kernel
theorem dX0_joined_23 : decode cX0_joined 23 = .ok (.iload 4, 2) := by decide +kernel
theorem dX0_joined_25 : decode cX0_joined 25 = .ok (.iload 5, 2) := by decide +kernel
theorem dX0_joined_27 : decode cX0_joined 27 = .ok (.invokestatic 41, 3) := by decide +kernel
theorem dX0_joined_30 : decode cX0_joined 30 = .ok (.istore 6, 2) := by decide +kernel
theorem dX0_joined_32 : decode cX0_joined 32 = .ok (.iload 4, 2) := by decide +kernel
theorem dX0_joined_34 : decode cX0_joined 34 = .ok (.iload 5, 2) := by decide +kernel
theorem dX0_joined_36 : decode cX0_joined 36 = .ok (.invokestatic 46, 3) := by decide +kernel
theorem dX0_joined_39 : decode cX0_joined 39 = .ok (.istore 7, 2) := by decide +kernel
theorem dX0_joined_41 : decode cX0_joined 41 = .ok (.iload 7, 2) := by decide +kernel
theorem dX0_joined_43 : decode cX0_joined 43 = .ok (.iconst 4, 1) := by decide +kernel
theorem dX0_joined_44 : decode cX0_joined 44 = .ok (.if_icmp .ge 7, 3) := by decide +kernel
theorem dX0_joined_47 : decode cX0_joined 47 = .ok (.ldc2_w 25, 3) := by decide +kernel
theorem dX0_joined_50 : decode cX0_joined 50 = .ok (.lreturn, 1) := by decide +kernel
theorem dX0_joined_51 : decode cX0_joined 51 = .ok (.lload_n 0, 1) := by decide +kernel
theorem dX0_joined_52 : decode cX0_joined 52 = .ok (.lstore 8, 2) := by decide +kernel
theorem dX0_joined_54 : decode cX0_joined 54 = .ok (.iload 7, 2) := by decide +kernel
theorem dX0_joined_56 : decode cX0_joined 56 = .ok (.istore 10, 2) := by decide +kernel
theorem dX0_joined_58 : decode cX0_joined 58 = .ok (.iload 10, 2) := by decide +kernel
theorem dX0_joined_60 : decode cX0_joined 60 = .ok (.bipush 12, 2) := by decide +kernel
theorem dX0_joined_62 : decode cX0_joined 62 = .ok (.if_icmp .ge 36, 3) := by decide +kernel
theorem dX0_joined_65 : decode cX0_joined 65 = .ok (.lload_n 0, 1) := by decide +kernel
theorem dX0_joined_66 : decode cX0_joined 66 = .ok (.iload 10, 2) := by decide +kernel
theorem dX0_joined_68 : decode cX0_joined 68 = .ok (.invokestatic 30, 3) := by decide +kernel
theorem dX0_joined_71 : decode cX0_joined 71 = .ok (.iload 7, 2) := by decide +kernel
theorem dX0_joined_73 : decode cX0_joined 73 = .ok (.if_icmp .ne 19, 3) := by decide +kernel
theorem dX0_joined_76 : decode cX0_joined 76 = .ok (.lload 8, 2) := by decide +kernel
theorem dX0_joined_78 : decode cX0_joined 78 = .ok (.iload 7, 2) := by decide +kernel
theorem dX0_joined_80 : decode cX0_joined 80 = .ok (.iload 6, 2) := by decide +kernel
theorem dX0_joined_82 : decode cX0_joined 82 = .ok (.isub, 1) := by decide +kernel
theorem dX0_joined_83 : decode cX0_joined 83 = .ok (.i2l, 1) := by decide +kernel
theorem dX0_joined_84 : decode cX0_joined 84 = .ok (.iconst 4, 1) := by decide +kernel
theorem dX0_joined_85 : decode cX0_joined 85 = .ok (.iload 10, 2) := by decide +kernel
theorem dX0_joined_87 : decode cX0_joined 87 = .ok (.imul, 1) := by decide +kernel
theorem dX0_joined_88 : decode cX0_joined 88 = .ok (.lshl, 1) := by decide +kernel
theorem dX0_joined_89 : decode cX0_joined 89 = .ok (.lsub, 1) := by decide +kernel
theorem dX0_joined_90 : decode cX0_joined 90 = .ok (.lstore 8, 2) := by decide +kernel
theorem dX0_joined_92 : decode cX0_joined 92 = .ok (.iinc 10 1, 3) := by decide +kernel
theorem dX0_joined_95 : decode cX0_joined 95 = .ok (.goto (-37), 3) := by decide +kernel
theorem dX0_joined_98 : decode cX0_joined 98 = .ok (.lload 8, 2) := by decide +kernel
theorem dX0_joined_100 : decode cX0_joined 100 = .ok (.lreturn, 1) := by decide +kernel
theorem dX1_isAtom_0 : decode cX1_isAtom 0 = .ok (.iload_n 0, 1) := by decide +kernel
theorem dX1_isAtom_1 : decode cX1_isAtom 1 = .ok (.ifCond .lt 14, 3) := by decide +kernel
theorem dX1_isAtom_4 : decode cX1_isAtom 4 = .ok (.iload_n 0, 1) := by decide +kernel
theorem dX1_isAtom_5 : decode cX1_isAtom 5 = .ok (.sipush 256, 3) := by decide +kernel
theorem dX1_isAtom_8 : decode cX1_isAtom 8 = .ok (.if_icmp .ge 7, 3) := by decide +kernel
theorem dX1_isAtom_11 : decode cX1_isAtom 11 = .ok (.iconst 1, 1) := by decide +kernel
theorem dX1_isAtom_12 : decode cX1_isAtom 12 = .ok (.goto 4, 3) := by decide +kernel
theorem dX1_isAtom_15 : decode cX1_isAtom 15 = .ok (.iconst 0, 1) := by decide +kernel
theorem dX1_isAtom_16 : decode cX1_isAtom 16 = .ok (.ireturn, 1) := by decide +kernel
theorem dX1_isFact_0 : decode cX1_isFact 0 = .ok (.iload_n 0, 1) := by decide +kernel
theorem dX1_isFact_1 : decode cX1_isFact 1 = .ok (.ifCond .lt 16, 3) := by decide +kernel
theorem dX1_isFact_4 : decode cX1_isFact 4 = .ok (.iload_n 0, 1) := by decide +kernel
theorem dX1_isFact_5 : decode cX1_isFact 5 = .ok (.iconst 4, 1) := by decide +kernel
theorem dX1_isFact_6 : decode cX1_isFact 6 = .ok (.if_icmp .ge 11, 3) := by decide +kernel
theorem dX1_isFact_9 : decode cX1_isFact 9 = .ok (.iload_n 1, 1) := by decide +kernel
theorem dX1_isFact_10 : decode cX1_isFact 10 = .ok (.ifCond .lt 7, 3) := by decide +kernel
theorem dX1_isFact_13 : decode cX1_isFact 13 = .ok (.iload_n 2, 1) := by decide +kernel
theorem dX1_isFact_14 : decode cX1_isFact 14 = .ok (.ifCond .ge 5, 3) := by decide +kernel
theorem dX1_isFact_17 : decode cX1_isFact 17 = .ok (.iconst 0, 1) := by decide +kernel
theorem dX1_isFact_18 : decode cX1_isFact 18 = .ok (.ireturn, 1) := by decide +kernel
theorem dX1_isFact_19 : decode cX1_isFact 19 = .ok (.iload_n 1, 1) := by decide +kernel
theorem dX1_isFact_20 : decode cX1_isFact 20 = .ok (.iconst 4, 1) := by decide +kernel
theorem dX1_isFact_21 : decode cX1_isFact 21 = .ok (.if_icmp .ge 16, 3) := by decide +kernel
theorem dX1_isFact_24 : decode cX1_isFact 24 = .ok (.iload_n 2, 1) := by decide +kernel
theorem dX1_isFact_25 : decode cX1_isFact 25 = .ok (.iconst 4, 1) := by decide +kernel
theorem dX1_isFact_26 : decode cX1_isFact 26 = .ok (.if_icmp .gt 7, 3) := by decide +kernel
theorem dX1_isFact_29 : decode cX1_isFact 29 = .ok (.iconst 1, 1) := by decide +kernel
theorem dX1_isFact_30 : decode cX1_isFact 30 = .ok (.goto 22, 3) := by decide +kernel
theorem dX1_isFact_33 : decode cX1_isFact 33 = .ok (.iconst 0, 1) := by decide +kernel
theorem dX1_isFact_34 : decode cX1_isFact 34 = .ok (.goto 18, 3) := by decide +kernel
theorem dX1_isFact_37 : decode cX1_isFact 37 = .ok (.iload_n 1, 1) := by decide +kernel
theorem dX1_isFact_38 : decode cX1_isFact 38 = .ok (.iconst 4, 1) := by decide +kernel
theorem dX1_isFact_39 : decode cX1_isFact 39 = .ok (.if_icmp .ne 12, 3) := by decide +kernel
theorem dX1_isFact_42 : decode cX1_isFact 42 = .ok (.iload_n 2, 1) := by decide +kernel
theorem dX1_isFact_43 : decode cX1_isFact 43 = .ok (.iconst 5, 1) := by decide +kernel
theorem dX1_isFact_44 : decode cX1_isFact 44 = .ok (.if_icmp .gt 7, 3) := by decide +kernel
theorem dX1_isFact_47 : decode cX1_isFact 47 = .ok (.iconst 1, 1) := by decide +kernel
theorem dX1_isFact_48 : decode cX1_isFact 48 = .ok (.goto 4, 3) := by decide +kernel
theorem dX1_isFact_51 : decode cX1_isFact 51 = .ok (.iconst 0, 1) := by decide +kernel
theorem dX1_isFact_52 : decode cX1_isFact 52 = .ok (.ireturn, 1) := by decide +kernel
theorem dX1_of_0 : decode cX1_of 0 = .ok (.bipush 64, 2) := by decide +kernel
theorem dX1_of_2 : decode cX1_of 2 = .ok (.iload_n 0, 1) := by decide +kernel
theorem dX1_of_3 : decode cX1_of 3 = .ok (.imul, 1) := by decide +kernel
theorem dX1_of_4 : decode cX1_of 4 = .ok (.bipush 8, 2) := by decide +kernel
theorem dX1_of_6 : decode cX1_of 6 = .ok (.iload_n 1, 1) := by decide +kernel
theorem dX1_of_7 : decode cX1_of 7 = .ok (.imul, 1) := by decide +kernel
theorem dX1_of_8 : decode cX1_of 8 = .ok (.iadd, 1) := by decide +kernel
theorem dX1_of_9 : decode cX1_of 9 = .ok (.iload_n 2, 1) := by decide +kernel
theorem dX1_of_10 : decode cX1_of 10 = .ok (.iadd, 1) := by decide +kernel
theorem dX1_of_11 : decode cX1_of 11 = .ok (.ireturn, 1) := by decide +kernel
theorem dX1_predicate_0 : decode cX1_predicate 0 = .ok (.iload_n 0, 1) := by decide +kernel
theorem dX1_predicate_1 : decode cX1_predicate 1 = .ok (.bipush 6, 2) := by decide +kernel
theorem dX1_predicate_3 : decode cX1_predicate 3 = .ok (.ishr, 1) := by decide +kernel
theorem dX1_predicate_4 : decode cX1_predicate 4 = .ok (.iconst 3, 1) := by decide +kernel
theorem dX1_predicate_5 : decode cX1_predicate 5 = .ok (.iand, 1) := by decide +kernel
theorem dX1_predicate_6 : decode cX1_predicate 6 = .ok (.ireturn, 1) := by decide +kernel
theorem dX1_pair_0 : decode cX1_pair 0 = .ok (.iload_n 0, 1) := by decide +kernel
theorem dX1_pair_1 : decode cX1_pair 1 = .ok (.bipush 63, 2) := by decide +kernel
theorem dX1_pair_3 : decode cX1_pair 3 = .ok (.iand, 1) := by decide +kernel
theorem dX1_pair_4 : decode cX1_pair 4 = .ok (.ireturn, 1) := by decide +kernel
theorem dX1_first_0 : decode cX1_first 0 = .ok (.iload_n 0, 1) := by decide +kernel
theorem dX1_first_1 : decode cX1_first 1 = .ok (.iconst 3, 1) := by decide +kernel
theorem dX1_first_2 : decode cX1_first 2 = .ok (.ishr, 1) := by decide +kernel
theorem dX1_first_3 : decode cX1_first 3 = .ok (.bipush 7, 2) := by decide +kernel
theorem dX1_first_5 : decode cX1_first 5 = .ok (.iand, 1) := by decide +kernel
theorem dX1_first_6 : decode cX1_first 6 = .ok (.ireturn, 1) := by decide +kernel
theorem dX1_second_0 : decode cX1_second 0 = .ok (.iload_n 0, 1) := by decide +kernel
theorem dX1_second_1 : decode cX1_second 1 = .ok (.bipush 7, 2) := by decide +kernel
theorem dX1_second_3 : decode cX1_second 3 = .ok (.iand, 1) := by decide +kernel
theorem dX1_second_4 : decode cX1_second 4 = .ok (.ireturn, 1) := by decide +kernel
theorem dX1_strongerPairs_0 : decode cX1_strongerPairs 0 = .ok (.iload_n 0, 1) := by decide +kernel
theorem dX1_strongerPairs_1 : decode cX1_strongerPairs 1 = .ok (.invokestatic 11, 3) := by decide +kernel
theorem dX1_strongerPairs_4 : decode cX1_strongerPairs 4 = .ok (.istore_n 1, 1) := by decide +kernel
theorem dX1_strongerPairs_5 : decode cX1_strongerPairs 5 = .ok (.iload_n 0, 1) := by decide +kernel
theorem dX1_strongerPairs_6 : decode cX1_strongerPairs 6 = .ok (.invokestatic 15, 3) := by decide +kernel
theorem dX1_strongerPairs_9 : decode cX1_strongerPairs 9 = .ok (.istore_n 2, 1) := by decide +kernel
theorem dX1_strongerPairs_10 : decode cX1_strongerPairs 10 = .ok (.iload_n 1, 1) := by decide +kernel
theorem dX1_strongerPairs_11 : decode cX1_strongerPairs 11 = .ok (.iconst 4, 1) := by decide +kernel
theorem dX1_strongerPairs_12 : decode cX1_strongerPairs 12 = .ok (.if_icmp .gt 8, 3) := by decide +kernel
theorem dX1_strongerPairs_15 : decode cX1_strongerPairs 15 = .ok (.iload_n 2, 1) := by decide +kernel
theorem dX1_strongerPairs_16 : decode cX1_strongerPairs 16 = .ok (.iconst 4, 1) := by decide +kernel
theorem dX1_strongerPairs_17 : decode cX1_strongerPairs 17 = .ok (.if_icmp .le 5, 3) := by decide +kernel
theorem dX1_strongerPairs_20 : decode cX1_strongerPairs 20 = .ok (.lconst 0, 1) := by decide +kernel
theorem dX1_strongerPairs_21 : decode cX1_strongerPairs 21 = .ok (.lreturn, 1) := by decide +kernel
theorem dX1_strongerPairs_22 : decode cX1_strongerPairs 22 = .ok (.lconst 1, 1) := by decide +kernel
theorem dX1_strongerPairs_23 : decode cX1_strongerPairs 23 = .ok (.iconst 0, 1) := by decide +kernel
theorem dX1_strongerPairs_24 : decode cX1_strongerPairs 24 = .ok (.iconst 4, 1) := by decide +kernel
theorem dX1_strongerPairs_25 : decode cX1_strongerPairs 25 = .ok (.iconst 5, 1) := by decide +kernel
theorem dX1_strongerPairs_26 : decode cX1_strongerPairs 26 = .ok (.invokestatic 18, 3) := by decide +kernel
theorem dX1_strongerPairs_29 : decode cX1_strongerPairs 29 = .ok (.lshl, 1) := by decide +kernel
theorem dX1_strongerPairs_30 : decode cX1_strongerPairs 30 = .ok (.lstore_n 3, 1) := by decide +kernel
theorem dX1_strongerPairs_31 : decode cX1_strongerPairs 31 = .ok (.iload_n 1, 1) := by decide +kernel
theorem dX1_strongerPairs_32 : decode cX1_strongerPairs 32 = .ok (.iconst 4, 1) := by decide +kernel
theorem dX1_strongerPairs_33 : decode cX1_strongerPairs 33 = .ok (.if_icmp .eq 8, 3) := by decide +kernel
theorem dX1_strongerPairs_36 : decode cX1_strongerPairs 36 = .ok (.iload_n 2, 1) := by decide +kernel
theorem dX1_strongerPairs_37 : decode cX1_strongerPairs 37 = .ok (.iconst 4, 1) := by decide +kernel
theorem dX1_strongerPairs_38 : decode cX1_strongerPairs 38 = .ok (.if_icmp .ne 5, 3) := by decide +kernel
theorem dX1_strongerPairs_41 : decode cX1_strongerPairs 41 = .ok (.lload_n 3, 1) := by decide +kernel
theorem dX1_strongerPairs_42 : decode cX1_strongerPairs 42 = .ok (.lreturn, 1) := by decide +kernel
theorem dX1_strongerPairs_43 : decode cX1_strongerPairs 43 = .ok (.lconst 1, 1) := by decide +kernel
theorem dX1_strongerPairs_44 : decode cX1_strongerPairs 44 = .ok (.iconst 0, 1) := by decide +kernel
theorem dX1_strongerPairs_45 : decode cX1_strongerPairs 45 = .ok (.iload_n 1, 1) := by decide +kernel
theorem dX1_strongerPairs_46 : decode cX1_strongerPairs 46 = .ok (.iconst 4, 1) := by decide +kernel
theorem dX1_strongerPairs_47 : decode cX1_strongerPairs 47 = .ok (.invokestatic 18, 3) := by decide +kernel
theorem dX1_strongerPairs_50 : decode cX1_strongerPairs 50 = .ok (.lshl, 1) := by decide +kernel
theorem dX1_strongerPairs_51 : decode cX1_strongerPairs 51 = .ok (.lconst 1, 1) := by decide +kernel
theorem dX1_strongerPairs_52 : decode cX1_strongerPairs 52 = .ok (.iconst 0, 1) := by decide +kernel
theorem dX1_strongerPairs_53 : decode cX1_strongerPairs 53 = .ok (.iconst 4, 1) := by decide +kernel
theorem dX1_strongerPairs_54 : decode cX1_strongerPairs 54 = .ok (.iload_n 2, 1) := by decide +kernel
theorem dX1_strongerPairs_55 : decode cX1_strongerPairs 55 = .ok (.invokestatic 18, 3) := by decide +kernel
theorem dX1_strongerPairs_58 : decode cX1_strongerPairs 58 = .ok (.lshl, 1) := by decide +kernel
theorem dX1_strongerPairs_59 : decode cX1_strongerPairs 59 = .ok (.lor, 1) := by decide +kernel
theorem dX1_strongerPairs_60 : decode cX1_strongerPairs 60 = .ok (.lstore 5, 2) := by decide +kernel
theorem dX1_strongerPairs_62 : decode cX1_strongerPairs 62 = .ok (.lload_n 3, 1) := by decide +kernel
theorem dX1_strongerPairs_63 : decode cX1_strongerPairs 63 = .ok (.lload 5, 2) := by decide +kernel
theorem dX1_strongerPairs_65 : decode cX1_strongerPairs 65 = .ok (.lor, 1) := by decide +kernel
theorem dX1_strongerPairs_66 : decode cX1_strongerPairs 66 = .ok (.iload_n 1, 1) := by decide +kernel
theorem dX1_strongerPairs_67 : decode cX1_strongerPairs 67 = .ok (.iload_n 2, 1) := by decide +kernel
theorem dX1_strongerPairs_68 : decode cX1_strongerPairs 68 = .ok (.if_icmp .ne 14, 3) := by decide +kernel
theorem dX1_strongerPairs_71 : decode cX1_strongerPairs 71 = .ok (.lconst 1, 1) := by decide +kernel
theorem dX1_strongerPairs_72 : decode cX1_strongerPairs 72 = .ok (.iconst 0, 1) := by decide +kernel
theorem dX1_strongerPairs_73 : decode cX1_strongerPairs 73 = .ok (.iconst 4, 1) := by decide +kernel
theorem dX1_strongerPairs_74 : decode cX1_strongerPairs 74 = .ok (.iconst 4, 1) := by decide +kernel
theorem dX1_strongerPairs_75 : decode cX1_strongerPairs 75 = .ok (.invokestatic 18, 3) := by decide +kernel
theorem dX1_strongerPairs_78 : decode cX1_strongerPairs 78 = .ok (.lshl, 1) := by decide +kernel
theorem dX1_strongerPairs_79 : decode cX1_strongerPairs 79 = .ok (.goto 4, 3) := by decide +kernel
theorem dX1_strongerPairs_82 : decode cX1_strongerPairs 82 = .ok (.lconst 0, 1) := by decide +kernel
theorem dX1_strongerPairs_83 : decode cX1_strongerPairs 83 = .ok (.lor, 1) := by decide +kernel
theorem dX1_strongerPairs_84 : decode cX1_strongerPairs 84 = .ok (.lreturn, 1) := by decide +kernel
theorem dX1_instanceMask_0 : decode cX1_instanceMask 0 = .ok (.iload_n 0, 1) := by decide +kernel
theorem dX1_instanceMask_1 : decode cX1_instanceMask 1 = .ok (.invokestatic 11, 3) := by decide +kernel
theorem dX1_instanceMask_4 : decode cX1_instanceMask 4 = .ok (.istore_n 1, 1) := by decide +kernel
theorem dX1_instanceMask_5 : decode cX1_instanceMask 5 = .ok (.iload_n 0, 1) := by decide +kernel
theorem dX1_instanceMask_6 : decode cX1_instanceMask 6 = .ok (.invokestatic 15, 3) := by decide +kernel
theorem dX1_instanceMask_9 : decode cX1_instanceMask 9 = .ok (.istore_n 2, 1) := by decide +kernel
theorem dX1_instanceMask_10 : decode cX1_instanceMask 10 = .ok (.iload_n 1, 1) := by decide +kernel
theorem dX1_instanceMask_11 : decode cX1_instanceMask 11 = .ok (.iconst 4, 1) := by decide +kernel
theorem dX1_instanceMask_12 : decode cX1_instanceMask 12 = .ok (.if_icmp .ge 25, 3) := by decide +kernel
theorem dX1_instanceMask_15 : decode cX1_instanceMask 15 = .ok (.iload_n 2, 1) := by decide +kernel
theorem dX1_instanceMask_16 : decode cX1_instanceMask 16 = .ok (.iconst 4, 1) := by decide +kernel
theorem dX1_instanceMask_17 : decode cX1_instanceMask 17 = .ok (.if_icmp .ge 13, 3) := by decide +kernel
theorem dX1_instanceMask_20 : decode cX1_instanceMask 20 = .ok (.iconst 1, 1) := by decide +kernel
theorem dX1_instanceMask_21 : decode cX1_instanceMask 21 = .ok (.iconst 4, 1) := by decide +kernel
theorem dX1_instanceMask_22 : decode cX1_instanceMask 22 = .ok (.iload_n 1, 1) := by decide +kernel
theorem dX1_instanceMask_23 : decode cX1_instanceMask 23 = .ok (.imul, 1) := by decide +kernel
theorem dX1_instanceMask_24 : decode cX1_instanceMask 24 = .ok (.iload_n 2, 1) := by decide +kernel
theorem dX1_instanceMask_25 : decode cX1_instanceMask 25 = .ok (.iadd, 1) := by decide +kernel
theorem dX1_instanceMask_26 : decode cX1_instanceMask 26 = .ok (.ishl, 1) := by decide +kernel
theorem dX1_instanceMask_27 : decode cX1_instanceMask 27 = .ok (.goto 9, 3) := by decide +kernel
theorem dX1_instanceMask_30 : decode cX1_instanceMask 30 = .ok (.bipush 15, 2) := by decide +kernel
theorem dX1_instanceMask_32 : decode cX1_instanceMask 32 = .ok (.iconst 4, 1) := by decide +kernel
theorem dX1_instanceMask_33 : decode cX1_instanceMask 33 = .ok (.iload_n 1, 1) := by decide +kernel
theorem dX1_instanceMask_34 : decode cX1_instanceMask 34 = .ok (.imul, 1) := by decide +kernel
theorem dX1_instanceMask_35 : decode cX1_instanceMask 35 = .ok (.ishl, 1) := by decide +kernel
theorem dX1_instanceMask_36 : decode cX1_instanceMask 36 = .ok (.ireturn, 1) := by decide +kernel
theorem dX1_instanceMask_37 : decode cX1_instanceMask 37 = .ok (.iload_n 2, 1) := by decide +kernel
theorem dX1_instanceMask_38 : decode cX1_instanceMask 38 = .ok (.iconst 4, 1) := by decide +kernel
theorem dX1_instanceMask_39 : decode cX1_instanceMask 39 = .ok (.if_icmp .ge 9, 3) := by decide +kernel
theorem dX1_instanceMask_42 : decode cX1_instanceMask 42 = .ok (.sipush 4369, 3) := by decide +kernel
theorem dX1_instanceMask_45 : decode cX1_instanceMask 45 = .ok (.iload_n 2, 1) := by decide +kernel
theorem dX1_instanceMask_46 : decode cX1_instanceMask 46 = .ok (.ishl, 1) := by decide +kernel
theorem dX1_instanceMask_47 : decode cX1_instanceMask 47 = .ok (.ireturn, 1) := by decide +kernel
theorem dX1_instanceMask_48 : decode cX1_instanceMask 48 = .ok (.iload_n 2, 1) := by decide +kernel
theorem dX1_instanceMask_49 : decode cX1_instanceMask 49 = .ok (.iconst 4, 1) := by decide +kernel
theorem dX1_instanceMask_50 : decode cX1_instanceMask 50 = .ok (.if_icmp .ne 8, 3) := by decide +kernel
theorem dX1_instanceMask_53 : decode cX1_instanceMask 53 = .ok (.ldc 22, 2) := by decide +kernel
theorem dX1_instanceMask_55 : decode cX1_instanceMask 55 = .ok (.goto 5, 3) := by decide +kernel
theorem dX1_instanceMask_58 : decode cX1_instanceMask 58 = .ok (.ldc 23, 2) := by decide +kernel
theorem dX1_instanceMask_60 : decode cX1_instanceMask 60 = .ok (.ireturn, 1) := by decide +kernel
theorem dX2_init_0 : decode cX2_init 0 = .ok (.aload_n 0, 1) := by decide +kernel
theorem dX2_init_1 : decode cX2_init 1 = .ok (.invokespecial 3, 3) := by decide +kernel
theorem dX2_init_4 : decode cX2_init 4 = .ok (.aload_n 0, 1) := by decide +kernel
theorem dX2_init_5 : decode cX2_init 5 = .ok (.iconst 4, 1) := by decide +kernel
theorem dX2_init_6 : decode cX2_init 6 = .ok (.newarray .long, 2) := by decide +kernel
theorem dX2_init_8 : decode cX2_init 8 = .ok (.putfield 9, 3) := by decide +kernel
theorem dX2_init_11 : decode cX2_init 11 = .ok (.return_, 1) := by decide +kernel
theorem dX2_has_0 : decode cX2_has 0 = .ok (.aload_n 0, 1) := by decide +kernel
theorem dX2_has_1 : decode cX2_has 1 = .ok (.getfield 9, 3) := by decide +kernel
theorem dX2_has_4 : decode cX2_has 4 = .ok (.iload_n 1, 1) := by decide +kernel
theorem dX2_has_5 : decode cX2_has 5 = .ok (.invokestatic 15, 3) := by decide +kernel
theorem dX2_has_8 : decode cX2_has 8 = .ok (.laload, 1) := by decide +kernel
theorem dX2_has_9 : decode cX2_has 9 = .ok (.iload_n 1, 1) := by decide +kernel
theorem dX2_has_10 : decode cX2_has 10 = .ok (.invokestatic 21, 3) := by decide +kernel
theorem dX2_has_13 : decode cX2_has 13 = .ok (.lushr, 1) := by decide +kernel
theorem dX2_has_14 : decode cX2_has 14 = .ok (.lconst 1, 1) := by decide +kernel
theorem dX2_has_15 : decode cX2_has 15 = .ok (.land, 1) := by decide +kernel
theorem dX2_has_16 : decode cX2_has 16 = .ok (.lconst 0, 1) := by decide +kernel
theorem dX2_has_17 : decode cX2_has 17 = .ok (.lcmp, 1) := by decide +kernel
theorem dX2_has_18 : decode cX2_has 18 = .ok (.ifCond .eq 7, 3) := by decide +kernel
theorem dX2_has_21 : decode cX2_has 21 = .ok (.iconst 1, 1) := by decide +kernel
theorem dX2_has_22 : decode cX2_has 22 = .ok (.goto 4, 3) := by decide +kernel
theorem dX2_has_25 : decode cX2_has 25 = .ok (.iconst 0, 1) := by decide +kernel
theorem dX2_has_26 : decode cX2_has 26 = .ok (.ireturn, 1) := by decide +kernel
theorem dX2_put_0 : decode cX2_put 0 = .ok (.aload_n 0, 1) := by decide +kernel
theorem dX2_put_1 : decode cX2_put 1 = .ok (.getfield 9, 3) := by decide +kernel
theorem dX2_put_4 : decode cX2_put 4 = .ok (.iload_n 1, 1) := by decide +kernel
theorem dX2_put_5 : decode cX2_put 5 = .ok (.invokestatic 15, 3) := by decide +kernel
theorem dX2_put_8 : decode cX2_put 8 = .ok (.dup2, 1) := by decide +kernel
theorem dX2_put_9 : decode cX2_put 9 = .ok (.laload, 1) := by decide +kernel
theorem dX2_put_10 : decode cX2_put 10 = .ok (.lconst 1, 1) := by decide +kernel
theorem dX2_put_11 : decode cX2_put 11 = .ok (.iload_n 1, 1) := by decide +kernel
theorem dX2_put_12 : decode cX2_put 12 = .ok (.invokestatic 21, 3) := by decide +kernel
theorem dX2_put_15 : decode cX2_put 15 = .ok (.lshl, 1) := by decide +kernel
theorem dX2_put_16 : decode cX2_put 16 = .ok (.lor, 1) := by decide +kernel
theorem dX2_put_17 : decode cX2_put 17 = .ok (.lastore, 1) := by decide +kernel
theorem dX2_put_18 : decode cX2_put 18 = .ok (.return_, 1) := by decide +kernel
theorem dX2_take_0 : decode cX2_take 0 = .ok (.aload_n 0, 1) := by decide +kernel
theorem dX2_take_1 : decode cX2_take 1 = .ok (.getfield 9, 3) := by decide +kernel
theorem dX2_take_4 : decode cX2_take 4 = .ok (.iload_n 1, 1) := by decide +kernel
theorem dX2_take_5 : decode cX2_take 5 = .ok (.invokestatic 15, 3) := by decide +kernel
theorem dX2_take_8 : decode cX2_take 8 = .ok (.dup2, 1) := by decide +kernel
theorem dX2_take_9 : decode cX2_take 9 = .ok (.laload, 1) := by decide +kernel
theorem dX2_take_10 : decode cX2_take 10 = .ok (.lconst 1, 1) := by decide +kernel
theorem dX2_take_11 : decode cX2_take 11 = .ok (.iload_n 1, 1) := by decide +kernel
theorem dX2_take_12 : decode cX2_take 12 = .ok (.invokestatic 21, 3) := by decide +kernel
theorem dX2_take_15 : decode cX2_take 15 = .ok (.lshl, 1) := by decide +kernel
theorem dX2_take_16 : decode cX2_take 16 = .ok (.ldc2_w 24, 3) := by decide +kernel
theorem dX2_take_19 : decode cX2_take 19 = .ok (.lxor, 1) := by decide +kernel
theorem dX2_take_20 : decode cX2_take 20 = .ok (.land, 1) := by decide +kernel
theorem dX2_take_21 : decode cX2_take 21 = .ok (.lastore, 1) := by decide +kernel
theorem dX2_take_22 : decode cX2_take 22 = .ok (.return_, 1) := by decide +kernel
theorem dX2_empty_0 : decode cX2_empty 0 = .ok (.iconst 0, 1) := by decide +kernel
theorem dX2_empty_1 : decode cX2_empty 1 = .ok (.istore_n 1, 1) := by decide +kernel
theorem dX2_empty_2 : decode cX2_empty 2 = .ok (.iload_n 1, 1) := by decide +kernel
theorem dX2_empty_3 : decode cX2_empty 3 = .ok (.aload_n 0, 1) := by decide +kernel
theorem dX2_empty_4 : decode cX2_empty 4 = .ok (.getfield 9, 3) := by decide +kernel
theorem dX2_empty_7 : decode cX2_empty 7 = .ok (.arraylength, 1) := by decide +kernel
theorem dX2_empty_8 : decode cX2_empty 8 = .ok (.if_icmp .ge 16, 3) := by decide +kernel
theorem dX2_empty_11 : decode cX2_empty 11 = .ok (.aload_n 0, 1) := by decide +kernel
theorem dX2_empty_12 : decode cX2_empty 12 = .ok (.getfield 9, 3) := by decide +kernel
theorem dX2_empty_15 : decode cX2_empty 15 = .ok (.iload_n 1, 1) := by decide +kernel
theorem dX2_empty_16 : decode cX2_empty 16 = .ok (.lconst 0, 1) := by decide +kernel
theorem dX2_empty_17 : decode cX2_empty 17 = .ok (.lastore, 1) := by decide +kernel
theorem dX2_empty_18 : decode cX2_empty 18 = .ok (.iinc 1 1, 3) := by decide +kernel
theorem dX2_empty_21 : decode cX2_empty 21 = .ok (.goto (-19), 3) := by decide +kernel
theorem dX2_empty_24 : decode cX2_empty 24 = .ok (.return_, 1) := by decide +kernel
theorem dX2_copyOf_0 : decode cX2_copyOf 0 = .ok (.iconst 0, 1) := by decide +kernel
theorem dX2_copyOf_1 : decode cX2_copyOf 1 = .ok (.istore_n 2, 1) := by decide +kernel
theorem dX2_copyOf_2 : decode cX2_copyOf 2 = .ok (.iload_n 2, 1) := by decide +kernel
theorem dX2_copyOf_3 : decode cX2_copyOf 3 = .ok (.aload_n 0, 1) := by decide +kernel
theorem dX2_copyOf_4 : decode cX2_copyOf 4 = .ok (.getfield 9, 3) := by decide +kernel
theorem dX2_copyOf_7 : decode cX2_copyOf 7 = .ok (.arraylength, 1) := by decide +kernel
theorem dX2_copyOf_8 : decode cX2_copyOf 8 = .ok (.if_icmp .ge 21, 3) := by decide +kernel
theorem dX2_copyOf_11 : decode cX2_copyOf 11 = .ok (.aload_n 0, 1) := by decide +kernel
theorem dX2_copyOf_12 : decode cX2_copyOf 12 = .ok (.getfield 9, 3) := by decide +kernel
theorem dX2_copyOf_15 : decode cX2_copyOf 15 = .ok (.iload_n 2, 1) := by decide +kernel
theorem dX2_copyOf_16 : decode cX2_copyOf 16 = .ok (.aload_n 1, 1) := by decide +kernel
theorem dX2_copyOf_17 : decode cX2_copyOf 17 = .ok (.getfield 9, 3) := by decide +kernel
theorem dX2_copyOf_20 : decode cX2_copyOf 20 = .ok (.iload_n 2, 1) := by decide +kernel
theorem dX2_copyOf_21 : decode cX2_copyOf 21 = .ok (.laload, 1) := by decide +kernel
theorem dX2_copyOf_22 : decode cX2_copyOf 22 = .ok (.lastore, 1) := by decide +kernel
theorem dX2_copyOf_23 : decode cX2_copyOf 23 = .ok (.iinc 2 1, 3) := by decide +kernel
theorem dX2_copyOf_26 : decode cX2_copyOf 26 = .ok (.goto (-24), 3) := by decide +kernel
theorem dX2_copyOf_29 : decode cX2_copyOf 29 = .ok (.return_, 1) := by decide +kernel
theorem dX2_putAll_0 : decode cX2_putAll 0 = .ok (.iconst 0, 1) := by decide +kernel
theorem dX2_putAll_1 : decode cX2_putAll 1 = .ok (.istore_n 2, 1) := by decide +kernel
theorem dX2_putAll_2 : decode cX2_putAll 2 = .ok (.iload_n 2, 1) := by decide +kernel
theorem dX2_putAll_3 : decode cX2_putAll 3 = .ok (.aload_n 0, 1) := by decide +kernel
theorem dX2_putAll_4 : decode cX2_putAll 4 = .ok (.getfield 9, 3) := by decide +kernel
theorem dX2_putAll_7 : decode cX2_putAll 7 = .ok (.arraylength, 1) := by decide +kernel
theorem dX2_putAll_8 : decode cX2_putAll 8 = .ok (.if_icmp .ge 24, 3) := by decide +kernel
theorem dX2_putAll_11 : decode cX2_putAll 11 = .ok (.aload_n 0, 1) := by decide +kernel
theorem dX2_putAll_12 : decode cX2_putAll 12 = .ok (.getfield 9, 3) := by decide +kernel
theorem dX2_putAll_15 : decode cX2_putAll 15 = .ok (.iload_n 2, 1) := by decide +kernel
theorem dX2_putAll_16 : decode cX2_putAll 16 = .ok (.dup2, 1) := by decide +kernel
theorem dX2_putAll_17 : decode cX2_putAll 17 = .ok (.laload, 1) := by decide +kernel
theorem dX2_putAll_18 : decode cX2_putAll 18 = .ok (.aload_n 1, 1) := by decide +kernel
theorem dX2_putAll_19 : decode cX2_putAll 19 = .ok (.getfield 9, 3) := by decide +kernel
theorem dX2_putAll_22 : decode cX2_putAll 22 = .ok (.iload_n 2, 1) := by decide +kernel
theorem dX2_putAll_23 : decode cX2_putAll 23 = .ok (.laload, 1) := by decide +kernel
theorem dX2_putAll_24 : decode cX2_putAll 24 = .ok (.lor, 1) := by decide +kernel
theorem dX2_putAll_25 : decode cX2_putAll 25 = .ok (.lastore, 1) := by decide +kernel
theorem dX2_putAll_26 : decode cX2_putAll 26 = .ok (.iinc 2 1, 3) := by decide +kernel
theorem dX2_putAll_29 : decode cX2_putAll 29 = .ok (.goto (-27), 3) := by decide +kernel
theorem dX2_putAll_32 : decode cX2_putAll 32 = .ok (.return_, 1) := by decide +kernel
theorem dX2_size_0 : decode cX2_size 0 = .ok (.iconst 0, 1) := by decide +kernel
theorem dX2_size_1 : decode cX2_size 1 = .ok (.istore_n 1, 1) := by decide +kernel
theorem dX2_size_2 : decode cX2_size 2 = .ok (.iconst 0, 1) := by decide +kernel
theorem dX2_size_3 : decode cX2_size 3 = .ok (.istore_n 2, 1) := by decide +kernel
theorem dX2_size_4 : decode cX2_size 4 = .ok (.iload_n 2, 1) := by decide +kernel
theorem dX2_size_5 : decode cX2_size 5 = .ok (.aload_n 0, 1) := by decide +kernel
theorem dX2_size_6 : decode cX2_size 6 = .ok (.getfield 9, 3) := by decide +kernel
theorem dX2_size_9 : decode cX2_size 9 = .ok (.arraylength, 1) := by decide +kernel
theorem dX2_size_10 : decode cX2_size 10 = .ok (.if_icmp .ge 21, 3) := by decide +kernel
theorem dX2_size_13 : decode cX2_size 13 = .ok (.iload_n 1, 1) := by decide +kernel
theorem dX2_size_14 : decode cX2_size 14 = .ok (.aload_n 0, 1) := by decide +kernel
theorem dX2_size_15 : decode cX2_size 15 = .ok (.getfield 9, 3) := by decide +kernel
theorem dX2_size_18 : decode cX2_size 18 = .ok (.iload_n 2, 1) := by decide +kernel
theorem dX2_size_19 : decode cX2_size 19 = .ok (.laload, 1) := by decide +kernel
theorem dX2_size_20 : decode cX2_size 20 = .ok (.invokestatic 26, 3) := by decide +kernel
theorem dX2_size_23 : decode cX2_size 23 = .ok (.iadd, 1) := by decide +kernel
theorem dX2_size_24 : decode cX2_size 24 = .ok (.istore_n 1, 1) := by decide +kernel
theorem dX2_size_25 : decode cX2_size 25 = .ok (.iinc 2 1, 3) := by decide +kernel
theorem dX2_size_28 : decode cX2_size 28 = .ok (.goto (-24), 3) := by decide +kernel
theorem dX2_size_31 : decode cX2_size 31 = .ok (.iload_n 1, 1) := by decide +kernel
theorem dX2_size_32 : decode cX2_size 32 = .ok (.ireturn, 1) := by decide +kernel
theorem dX2_at_0 : decode cX2_at 0 = .ok (.iload_n 1, 1) := by decide +kernel
theorem dX2_at_1 : decode cX2_at 1 = .ok (.istore_n 2, 1) := by decide +kernel
theorem dX2_at_2 : decode cX2_at 2 = .ok (.iconst 0, 1) := by decide +kernel
theorem dX2_at_3 : decode cX2_at 3 = .ok (.istore_n 3, 1) := by decide +kernel
theorem dX2_at_4 : decode cX2_at 4 = .ok (.iload_n 3, 1) := by decide +kernel
theorem dX2_at_5 : decode cX2_at 5 = .ok (.sipush 256, 3) := by decide +kernel
theorem dX2_at_8 : decode cX2_at 8 = .ok (.if_icmp .ge 26, 3) := by decide +kernel
theorem dX2_at_11 : decode cX2_at 11 = .ok (.aload_n 0, 1) := by decide +kernel
theorem dX2_at_12 : decode cX2_at 12 = .ok (.iload_n 3, 1) := by decide +kernel
theorem dX2_at_13 : decode cX2_at 13 = .ok (.invokevirtual 32, 3) := by decide +kernel
theorem dX2_at_16 : decode cX2_at 16 = .ok (.ifCond .eq 12, 3) := by decide +kernel
theorem dX2_at_19 : decode cX2_at 19 = .ok (.iload_n 2, 1) := by decide +kernel
theorem dX2_at_20 : decode cX2_at 20 = .ok (.ifCond .ne 5, 3) := by decide +kernel
theorem dX2_at_23 : decode cX2_at 23 = .ok (.iload_n 3, 1) := by decide +kernel
theorem dX2_at_24 : decode cX2_at 24 = .ok (.ireturn, 1) := by decide +kernel
theorem dX2_at_25 : decode cX2_at 25 = .ok (.iinc 2 (-1), 3) := by decide +kernel
theorem dX2_at_28 : decode cX2_at 28 = .ok (.iinc 3 1, 3) := by decide +kernel
theorem dX2_at_31 : decode cX2_at 31 = .ok (.goto (-27), 3) := by decide +kernel
theorem dX2_at_34 : decode cX2_at 34 = .ok (.iconst (-1), 1) := by decide +kernel
theorem dX2_at_35 : decode cX2_at 35 = .ok (.ireturn, 1) := by decide +kernel
theorem dX2_hasPair_0 : decode cX2_hasPair 0 = .ok (.aload_n 0, 1) := by decide +kernel
theorem dX2_hasPair_1 : decode cX2_hasPair 1 = .ok (.getfield 9, 3) := by decide +kernel
theorem dX2_hasPair_4 : decode cX2_hasPair 4 = .ok (.iload_n 1, 1) := by decide +kernel
theorem dX2_hasPair_5 : decode cX2_hasPair 5 = .ok (.invokestatic 15, 3) := by decide +kernel
theorem dX2_hasPair_8 : decode cX2_hasPair 8 = .ok (.laload, 1) := by decide +kernel
theorem dX2_hasPair_9 : decode cX2_hasPair 9 = .ok (.iload_n 2, 1) := by decide +kernel
theorem dX2_hasPair_10 : decode cX2_hasPair 10 = .ok (.lushr, 1) := by decide +kernel
theorem dX2_hasPair_11 : decode cX2_hasPair 11 = .ok (.lconst 1, 1) := by decide +kernel
theorem dX2_hasPair_12 : decode cX2_hasPair 12 = .ok (.land, 1) := by decide +kernel
theorem dX2_hasPair_13 : decode cX2_hasPair 13 = .ok (.lconst 0, 1) := by decide +kernel
theorem dX2_hasPair_14 : decode cX2_hasPair 14 = .ok (.lcmp, 1) := by decide +kernel
theorem dX2_hasPair_15 : decode cX2_hasPair 15 = .ok (.ifCond .eq 7, 3) := by decide +kernel
theorem dX2_hasPair_18 : decode cX2_hasPair 18 = .ok (.iconst 1, 1) := by decide +kernel
theorem dX2_hasPair_19 : decode cX2_hasPair 19 = .ok (.goto 4, 3) := by decide +kernel
theorem dX2_hasPair_22 : decode cX2_hasPair 22 = .ok (.iconst 0, 1) := by decide +kernel
theorem dX2_hasPair_23 : decode cX2_hasPair 23 = .ok (.ireturn, 1) := by decide +kernel
theorem dX2_dropWeaker_0 : decode cX2_dropWeaker 0 = .ok (.aload_n 0, 1) := by decide +kernel
theorem dX2_dropWeaker_1 : decode cX2_dropWeaker 1 = .ok (.invokevirtual 36, 3) := by decide +kernel
theorem dX2_dropWeaker_4 : decode cX2_dropWeaker 4 = .ok (.istore_n 1, 1) := by decide +kernel
theorem dX2_dropWeaker_5 : decode cX2_dropWeaker 5 = .ok (.iconst 0, 1) := by decide +kernel
theorem dX2_dropWeaker_6 : decode cX2_dropWeaker 6 = .ok (.istore_n 2, 1) := by decide +kernel
theorem dX2_dropWeaker_7 : decode cX2_dropWeaker 7 = .ok (.iload_n 2, 1) := by decide +kernel
theorem dX2_dropWeaker_8 : decode cX2_dropWeaker 8 = .ok (.aload_n 0, 1) := by decide +kernel
theorem dX2_dropWeaker_9 : decode cX2_dropWeaker 9 = .ok (.getfield 9, 3) := by decide +kernel
theorem dX2_dropWeaker_12 : decode cX2_dropWeaker 12 = .ok (.arraylength, 1) := by decide +kernel
theorem dX2_dropWeaker_13 : decode cX2_dropWeaker 13 = .ok (.if_icmp .ge 31, 3) := by decide +kernel
theorem dX2_dropWeaker_16 : decode cX2_dropWeaker 16 = .ok (.aload_n 0, 1) := by decide +kernel
theorem dX2_dropWeaker_17 : decode cX2_dropWeaker 17 = .ok (.getfield 9, 3) := by decide +kernel
theorem dX2_dropWeaker_20 : decode cX2_dropWeaker 20 = .ok (.iload_n 2, 1) := by decide +kernel
theorem dX2_dropWeaker_21 : decode cX2_dropWeaker 21 = .ok (.dup2, 1) := by decide +kernel
theorem dX2_dropWeaker_22 : decode cX2_dropWeaker 22 = .ok (.laload, 1) := by decide +kernel
theorem dX2_dropWeaker_23 : decode cX2_dropWeaker 23 = .ok (.aload_n 0, 1) := by decide +kernel
theorem dX2_dropWeaker_24 : decode cX2_dropWeaker 24 = .ok (.getfield 9, 3) := by decide +kernel
theorem dX2_dropWeaker_27 : decode cX2_dropWeaker 27 = .ok (.iload_n 2, 1) := by decide +kernel
theorem dX2_dropWeaker_28 : decode cX2_dropWeaker 28 = .ok (.laload, 1) := by decide +kernel
theorem dX2_dropWeaker_29 : decode cX2_dropWeaker 29 = .ok (.invokestatic 40, 3) := by decide +kernel
theorem dX2_dropWeaker_32 : decode cX2_dropWeaker 32 = .ok (.ldc2_w 24, 3) := by decide +kernel
theorem dX2_dropWeaker_35 : decode cX2_dropWeaker 35 = .ok (.lxor, 1) := by decide +kernel
theorem dX2_dropWeaker_36 : decode cX2_dropWeaker 36 = .ok (.land, 1) := by decide +kernel
theorem dX2_dropWeaker_37 : decode cX2_dropWeaker 37 = .ok (.lastore, 1) := by decide +kernel
theorem dX2_dropWeaker_38 : decode cX2_dropWeaker 38 = .ok (.iinc 2 1, 3) := by decide +kernel
theorem dX2_dropWeaker_41 : decode cX2_dropWeaker 41 = .ok (.goto (-34), 3) := by decide +kernel
theorem dX2_dropWeaker_44 : decode cX2_dropWeaker 44 = .ok (.iload_n 1, 1) := by decide +kernel
theorem dX2_dropWeaker_45 : decode cX2_dropWeaker 45 = .ok (.aload_n 0, 1) := by decide +kernel
theorem dX2_dropWeaker_46 : decode cX2_dropWeaker 46 = .ok (.invokevirtual 36, 3) := by decide +kernel
theorem dX2_dropWeaker_49 : decode cX2_dropWeaker 49 = .ok (.isub, 1) := by decide +kernel
theorem dX2_dropWeaker_50 : decode cX2_dropWeaker 50 = .ok (.ireturn, 1) := by decide +kernel
theorem dX2_allFrom_0 : decode cX2_allFrom 0 = .ok (.iconst 0, 1) := by decide +kernel
theorem dX2_allFrom_1 : decode cX2_allFrom 1 = .ok (.istore_n 2, 1) := by decide +kernel
theorem dX2_allFrom_2 : decode cX2_allFrom 2 = .ok (.iload_n 2, 1) := by decide +kernel
theorem dX2_allFrom_3 : decode cX2_allFrom 3 = .ok (.aload_n 0, 1) := by decide +kernel
theorem dX2_allFrom_4 : decode cX2_allFrom 4 = .ok (.getfield 9, 3) := by decide +kernel
theorem dX2_allFrom_7 : decode cX2_allFrom 7 = .ok (.arraylength, 1) := by decide +kernel
theorem dX2_allFrom_8 : decode cX2_allFrom 8 = .ok (.if_icmp .ge 31, 3) := by decide +kernel
theorem dX2_allFrom_11 : decode cX2_allFrom 11 = .ok (.aload_n 0, 1) := by decide +kernel
theorem dX2_allFrom_12 : decode cX2_allFrom 12 = .ok (.getfield 9, 3) := by decide +kernel
theorem dX2_allFrom_15 : decode cX2_allFrom 15 = .ok (.iload_n 2, 1) := by decide +kernel
theorem dX2_allFrom_16 : decode cX2_allFrom 16 = .ok (.aload_n 1, 1) := by decide +kernel
theorem dX2_allFrom_17 : decode cX2_allFrom 17 = .ok (.getfield 9, 3) := by decide +kernel
theorem dX2_allFrom_20 : decode cX2_allFrom 20 = .ok (.iload_n 2, 1) := by decide +kernel
theorem dX2_allFrom_21 : decode cX2_allFrom 21 = .ok (.laload, 1) := by decide +kernel
theorem dX2_allFrom_22 : decode cX2_allFrom 22 = .ok (.aload_n 1, 1) := by decide +kernel
theorem dX2_allFrom_23 : decode cX2_allFrom 23 = .ok (.getfield 9, 3) := by decide +kernel
theorem dX2_allFrom_26 : decode cX2_allFrom 26 = .ok (.iload_n 2, 1) := by decide +kernel
theorem dX2_allFrom_27 : decode cX2_allFrom 27 = .ok (.laload, 1) := by decide +kernel
theorem dX2_allFrom_28 : decode cX2_allFrom 28 = .ok (.invokestatic 40, 3) := by decide +kernel
theorem dX2_allFrom_31 : decode cX2_allFrom 31 = .ok (.lor, 1) := by decide +kernel
theorem dX2_allFrom_32 : decode cX2_allFrom 32 = .ok (.lastore, 1) := by decide +kernel
theorem dX2_allFrom_33 : decode cX2_allFrom 33 = .ok (.iinc 2 1, 3) := by decide +kernel
theorem dX2_allFrom_36 : decode cX2_allFrom 36 = .ok (.goto (-34), 3) := by decide +kernel
theorem dX2_allFrom_39 : decode cX2_allFrom 39 = .ok (.return_, 1) := by decide +kernel
theorem dX2_weakerPairs_0 : decode cX2_weakerPairs 0 = .ok (.lconst 0, 1) := by decide +kernel
theorem dX2_weakerPairs_1 : decode cX2_weakerPairs 1 = .ok (.lstore_n 2, 1) := by decide +kernel
theorem dX2_weakerPairs_2 : decode cX2_weakerPairs 2 = .ok (.iconst 0, 1) := by decide +kernel
theorem dX2_weakerPairs_3 : decode cX2_weakerPairs 3 = .ok (.istore 4, 2) := by decide +kernel
theorem dX2_weakerPairs_5 : decode cX2_weakerPairs 5 = .ok (.iload 4, 2) := by decide +kernel
theorem dX2_weakerPairs_7 : decode cX2_weakerPairs 7 = .ok (.bipush 38, 2) := by decide +kernel
theorem dX2_weakerPairs_9 : decode cX2_weakerPairs 9 = .ok (.if_icmp .ge 28, 3) := by decide +kernel
theorem dX2_weakerPairs_12 : decode cX2_weakerPairs 12 = .ok (.lload_n 0, 1) := by decide +kernel
theorem dX2_weakerPairs_13 : decode cX2_weakerPairs 13 = .ok (.iload 4, 2) := by decide +kernel
theorem dX2_weakerPairs_15 : decode cX2_weakerPairs 15 = .ok (.invokestatic 44, 3) := by decide +kernel
theorem dX2_weakerPairs_18 : decode cX2_weakerPairs 18 = .ok (.land, 1) := by decide +kernel
theorem dX2_weakerPairs_19 : decode cX2_weakerPairs 19 = .ok (.lconst 0, 1) := by decide +kernel
theorem dX2_weakerPairs_20 : decode cX2_weakerPairs 20 = .ok (.lcmp, 1) := by decide +kernel
theorem dX2_weakerPairs_21 : decode cX2_weakerPairs 21 = .ok (.ifCond .eq 10, 3) := by decide +kernel
theorem dX2_weakerPairs_24 : decode cX2_weakerPairs 24 = .ok (.lload_n 2, 1) := by decide +kernel
theorem dX2_weakerPairs_25 : decode cX2_weakerPairs 25 = .ok (.lconst 1, 1) := by decide +kernel
theorem dX2_weakerPairs_26 : decode cX2_weakerPairs 26 = .ok (.iload 4, 2) := by decide +kernel
theorem dX2_weakerPairs_28 : decode cX2_weakerPairs 28 = .ok (.lshl, 1) := by decide +kernel
theorem dX2_weakerPairs_29 : decode cX2_weakerPairs 29 = .ok (.lor, 1) := by decide +kernel
theorem dX2_weakerPairs_30 : decode cX2_weakerPairs 30 = .ok (.lstore_n 2, 1) := by decide +kernel
theorem dX2_weakerPairs_31 : decode cX2_weakerPairs 31 = .ok (.iinc 4 1, 3) := by decide +kernel
theorem dX2_weakerPairs_34 : decode cX2_weakerPairs 34 = .ok (.goto (-29), 3) := by decide +kernel
theorem dX2_weakerPairs_37 : decode cX2_weakerPairs 37 = .ok (.lload_n 2, 1) := by decide +kernel
theorem dX2_weakerPairs_38 : decode cX2_weakerPairs 38 = .ok (.lreturn, 1) := by decide +kernel
theorem dX2_instancesWith_0 : decode cX2_instancesWith 0 = .ok (.iload_n 1, 1) := by decide +kernel
theorem dX2_instancesWith_1 : decode cX2_instancesWith 1 = .ok (.ifCond .lt 12, 3) := by decide +kernel
theorem dX2_instancesWith_4 : decode cX2_instancesWith 4 = .ok (.iload_n 1, 1) := by decide +kernel
theorem dX2_instancesWith_5 : decode cX2_instancesWith 5 = .ok (.aload_n 0, 1) := by decide +kernel
theorem dX2_instancesWith_6 : decode cX2_instancesWith 6 = .ok (.getfield 9, 3) := by decide +kernel
theorem dX2_instancesWith_9 : decode cX2_instancesWith 9 = .ok (.arraylength, 1) := by decide +kernel
theorem dX2_instancesWith_10 : decode cX2_instancesWith 10 = .ok (.if_icmp .lt 5, 3) := by decide +kernel
theorem dX2_instancesWith_13 : decode cX2_instancesWith 13 = .ok (.iconst 0, 1) := by decide +kernel
theorem dX2_instancesWith_14 : decode cX2_instancesWith 14 = .ok (.ireturn, 1) := by decide +kernel
theorem dX2_instancesWith_15 : decode cX2_instancesWith 15 = .ok (.iconst 0, 1) := by decide +kernel
theorem dX2_instancesWith_16 : decode cX2_instancesWith 16 = .ok (.istore_n 2, 1) := by decide +kernel
theorem dX2_instancesWith_17 : decode cX2_instancesWith 17 = .ok (.iconst 0, 1) := by decide +kernel
theorem dX2_instancesWith_18 : decode cX2_instancesWith 18 = .ok (.istore_n 3, 1) := by decide +kernel
theorem dX2_instancesWith_19 : decode cX2_instancesWith 19 = .ok (.iload_n 3, 1) := by decide +kernel
theorem dX2_instancesWith_20 : decode cX2_instancesWith 20 = .ok (.bipush 38, 2) := by decide +kernel
theorem dX2_instancesWith_22 : decode cX2_instancesWith 22 = .ok (.if_icmp .ge 31, 3) := by decide +kernel
theorem dX2_instancesWith_25 : decode cX2_instancesWith 25 = .ok (.aload_n 0, 1) := by decide +kernel
theorem dX2_instancesWith_26 : decode cX2_instancesWith 26 = .ok (.getfield 9, 3) := by decide +kernel
theorem dX2_instancesWith_29 : decode cX2_instancesWith 29 = .ok (.iload_n 1, 1) := by decide +kernel
theorem dX2_instancesWith_30 : decode cX2_instancesWith 30 = .ok (.laload, 1) := by decide +kernel
theorem dX2_instancesWith_31 : decode cX2_instancesWith 31 = .ok (.iload_n 3, 1) := by decide +kernel
theorem dX2_instancesWith_32 : decode cX2_instancesWith 32 = .ok (.lushr, 1) := by decide +kernel
theorem dX2_instancesWith_33 : decode cX2_instancesWith 33 = .ok (.lconst 1, 1) := by decide +kernel
theorem dX2_instancesWith_34 : decode cX2_instancesWith 34 = .ok (.land, 1) := by decide +kernel
theorem dX2_instancesWith_35 : decode cX2_instancesWith 35 = .ok (.lconst 0, 1) := by decide +kernel
theorem dX2_instancesWith_36 : decode cX2_instancesWith 36 = .ok (.lcmp, 1) := by decide +kernel
theorem dX2_instancesWith_37 : decode cX2_instancesWith 37 = .ok (.ifCond .eq 10, 3) := by decide +kernel
theorem dX2_instancesWith_40 : decode cX2_instancesWith 40 = .ok (.iload_n 2, 1) := by decide +kernel
theorem dX2_instancesWith_41 : decode cX2_instancesWith 41 = .ok (.iload_n 3, 1) := by decide +kernel
theorem dX2_instancesWith_42 : decode cX2_instancesWith 42 = .ok (.invokestatic 48, 3) := by decide +kernel
theorem dX2_instancesWith_45 : decode cX2_instancesWith 45 = .ok (.ior, 1) := by decide +kernel
theorem dX2_instancesWith_46 : decode cX2_instancesWith 46 = .ok (.istore_n 2, 1) := by decide +kernel
theorem dX2_instancesWith_47 : decode cX2_instancesWith 47 = .ok (.iinc 3 1, 3) := by decide +kernel
theorem dX2_instancesWith_50 : decode cX2_instancesWith 50 = .ok (.goto (-31), 3) := by decide +kernel
theorem dX2_instancesWith_53 : decode cX2_instancesWith 53 = .ok (.iload_n 2, 1) := by decide +kernel
theorem dX2_instancesWith_54 : decode cX2_instancesWith 54 = .ok (.ireturn, 1) := by decide +kernel
theorem dX2_instanceCount_0 : decode cX2_instanceCount 0 = .ok (.iconst 0, 1) := by decide +kernel
theorem dX2_instanceCount_1 : decode cX2_instanceCount 1 = .ok (.istore_n 1, 1) := by decide +kernel
theorem dX2_instanceCount_2 : decode cX2_instanceCount 2 = .ok (.iconst 0, 1) := by decide +kernel
theorem dX2_instanceCount_3 : decode cX2_instanceCount 3 = .ok (.istore_n 2, 1) := by decide +kernel
theorem dX2_instanceCount_4 : decode cX2_instanceCount 4 = .ok (.iload_n 2, 1) := by decide +kernel
theorem dX2_instanceCount_5 : decode cX2_instanceCount 5 = .ok (.aload_n 0, 1) := by decide +kernel
theorem dX2_instanceCount_6 : decode cX2_instanceCount 6 = .ok (.getfield 9, 3) := by decide +kernel
theorem dX2_instanceCount_9 : decode cX2_instanceCount 9 = .ok (.arraylength, 1) := by decide +kernel
theorem dX2_instanceCount_10 : decode cX2_instanceCount 10 = .ok (.if_icmp .ge 20, 3) := by decide +kernel
theorem dX2_instanceCount_13 : decode cX2_instanceCount 13 = .ok (.iload_n 1, 1) := by decide +kernel
theorem dX2_instanceCount_14 : decode cX2_instanceCount 14 = .ok (.aload_n 0, 1) := by decide +kernel
theorem dX2_instanceCount_15 : decode cX2_instanceCount 15 = .ok (.iload_n 2, 1) := by decide +kernel
theorem dX2_instanceCount_16 : decode cX2_instanceCount 16 = .ok (.invokevirtual 51, 3) := by decide +kernel
theorem dX2_instanceCount_19 : decode cX2_instanceCount 19 = .ok (.invokestatic 54, 3) := by decide +kernel
theorem dX2_instanceCount_22 : decode cX2_instanceCount 22 = .ok (.iadd, 1) := by decide +kernel
theorem dX2_instanceCount_23 : decode cX2_instanceCount 23 = .ok (.istore_n 1, 1) := by decide +kernel
theorem dX2_instanceCount_24 : decode cX2_instanceCount 24 = .ok (.iinc 2 1, 3) := by decide +kernel
theorem dX2_instanceCount_27 : decode cX2_instanceCount 27 = .ok (.goto (-23), 3) := by decide +kernel
theorem dX2_instanceCount_30 : decode cX2_instanceCount 30 = .ok (.iload_n 1, 1) := by decide +kernel
theorem dX2_instanceCount_31 : decode cX2_instanceCount 31 = .ok (.ireturn, 1) := by decide +kernel
theorem dX3_init_0 : decode cX3_init 0 = .ok (.aload_n 0, 1) := by decide +kernel
theorem dX3_init_1 : decode cX3_init 1 = .ok (.invokespecial 3, 3) := by decide +kernel
theorem dX3_init_4 : decode cX3_init 4 = .ok (.aload_n 0, 1) := by decide +kernel
theorem dX3_init_5 : decode cX3_init 5 = .ok (.iconst 3, 1) := by decide +kernel
theorem dX3_init_6 : decode cX3_init 6 = .ok (.newarray .int, 2) := by decide +kernel
theorem dX3_init_8 : decode cX3_init 8 = .ok (.putfield 9, 3) := by decide +kernel
theorem dX3_init_11 : decode cX3_init 11 = .ok (.return_, 1) := by decide +kernel
theorem dX4_init_0 : decode cX4_init 0 = .ok (.aload_n 0, 1) := by decide +kernel
theorem dX4_init_1 : decode cX4_init 1 = .ok (.invokespecial 3, 3) := by decide +kernel
theorem dX4_init_4 : decode cX4_init 4 = .ok (.aload_n 0, 1) := by decide +kernel
theorem dX4_init_5 : decode cX4_init 5 = .ok (.new 9, 3) := by decide +kernel
theorem dX4_init_8 : decode cX4_init 8 = .ok (.dup, 1) := by decide +kernel
theorem dX4_init_9 : decode cX4_init 9 = .ok (.invokespecial 11, 3) := by decide +kernel
theorem dX4_init_12 : decode cX4_init 12 = .ok (.putfield 12, 3) := by decide +kernel
theorem dX4_init_15 : decode cX4_init 15 = .ok (.aload_n 0, 1) := by decide +kernel
theorem dX4_init_16 : decode cX4_init 16 = .ok (.bipush 18, 2) := by decide +kernel
theorem dX4_init_18 : decode cX4_init 18 = .ok (.newarray .int, 2) := by decide +kernel
theorem dX4_init_20 : decode cX4_init 20 = .ok (.putfield 18, 3) := by decide +kernel
theorem dX4_init_23 : decode cX4_init 23 = .ok (.return_, 1) := by decide +kernel
theorem dX4_ruleCount_0 : decode cX4_ruleCount 0 = .ok (.aload_n 0, 1) := by decide +kernel
theorem dX4_ruleCount_1 : decode cX4_ruleCount 1 = .ok (.getfield 22, 3) := by decide +kernel
theorem dX4_ruleCount_4 : decode cX4_ruleCount 4 = .ok (.ireturn, 1) := by decide +kernel
theorem dX4_hasRule_0 : decode cX4_hasRule 0 = .ok (.iload_n 1, 1) := by decide +kernel
theorem dX4_hasRule_1 : decode cX4_hasRule 1 = .ok (.ifCond .lt 15, 3) := by decide +kernel
theorem dX4_hasRule_4 : decode cX4_hasRule 4 = .ok (.iload_n 1, 1) := by decide +kernel
theorem dX4_hasRule_5 : decode cX4_hasRule 5 = .ok (.aload_n 0, 1) := by decide +kernel
theorem dX4_hasRule_6 : decode cX4_hasRule 6 = .ok (.getfield 22, 3) := by decide +kernel
theorem dX4_hasRule_9 : decode cX4_hasRule 9 = .ok (.if_icmp .ge 7, 3) := by decide +kernel
theorem dX4_hasRule_12 : decode cX4_hasRule 12 = .ok (.iconst 1, 1) := by decide +kernel
theorem dX4_hasRule_13 : decode cX4_hasRule 13 = .ok (.goto 4, 3) := by decide +kernel
theorem dX4_hasRule_16 : decode cX4_hasRule 16 = .ok (.iconst 0, 1) := by decide +kernel
theorem dX4_hasRule_17 : decode cX4_hasRule 17 = .ok (.ireturn, 1) := by decide +kernel
theorem dX4_atomAt_0 : decode cX4_atomAt 0 = .ok (.iconst 3, 1) := by decide +kernel
theorem dX4_atomAt_1 : decode cX4_atomAt 1 = .ok (.iload_n 1, 1) := by decide +kernel
theorem dX4_atomAt_2 : decode cX4_atomAt 2 = .ok (.imul, 1) := by decide +kernel
theorem dX4_atomAt_3 : decode cX4_atomAt 3 = .ok (.iload_n 2, 1) := by decide +kernel
theorem dX4_atomAt_4 : decode cX4_atomAt 4 = .ok (.iadd, 1) := by decide +kernel
theorem dX4_atomAt_5 : decode cX4_atomAt 5 = .ok (.istore_n 3, 1) := by decide +kernel
theorem dX4_atomAt_6 : decode cX4_atomAt 6 = .ok (.iload_n 3, 1) := by decide +kernel
theorem dX4_atomAt_7 : decode cX4_atomAt 7 = .ok (.ifCond .lt 21, 3) := by decide +kernel
theorem dX4_atomAt_10 : decode cX4_atomAt 10 = .ok (.iload_n 3, 1) := by decide +kernel
theorem dX4_atomAt_11 : decode cX4_atomAt 11 = .ok (.aload_n 0, 1) := by decide +kernel
theorem dX4_atomAt_12 : decode cX4_atomAt 12 = .ok (.getfield 18, 3) := by decide +kernel
theorem dX4_atomAt_15 : decode cX4_atomAt 15 = .ok (.arraylength, 1) := by decide +kernel
theorem dX4_atomAt_16 : decode cX4_atomAt 16 = .ok (.if_icmp .ge 12, 3) := by decide +kernel
theorem dX4_atomAt_19 : decode cX4_atomAt 19 = .ok (.aload_n 0, 1) := by decide +kernel
theorem dX4_atomAt_20 : decode cX4_atomAt 20 = .ok (.getfield 18, 3) := by decide +kernel
theorem dX4_atomAt_23 : decode cX4_atomAt 23 = .ok (.iload_n 3, 1) := by decide +kernel
theorem dX4_atomAt_24 : decode cX4_atomAt 24 = .ok (.iaload, 1) := by decide +kernel
theorem dX4_atomAt_25 : decode cX4_atomAt 25 = .ok (.goto 4, 3) := by decide +kernel
theorem dX4_atomAt_28 : decode cX4_atomAt 28 = .ok (.iconst (-1), 1) := by decide +kernel
theorem dX4_atomAt_29 : decode cX4_atomAt 29 = .ok (.ireturn, 1) := by decide +kernel
theorem dX4_addRule_0 : decode cX4_addRule 0 = .ok (.iconst 3, 1) := by decide +kernel
theorem dX4_addRule_1 : decode cX4_addRule 1 = .ok (.aload_n 0, 1) := by decide +kernel
theorem dX4_addRule_2 : decode cX4_addRule 2 = .ok (.getfield 22, 3) := by decide +kernel
theorem dX4_addRule_5 : decode cX4_addRule 5 = .ok (.imul, 1) := by decide +kernel
theorem dX4_addRule_6 : decode cX4_addRule 6 = .ok (.istore 4, 2) := by decide +kernel
theorem dX4_addRule_8 : decode cX4_addRule 8 = .ok (.iload 4, 2) := by decide +kernel
theorem dX4_addRule_10 : decode cX4_addRule 10 = .ok (.ifCond .lt 15, 3) := by decide +kernel
theorem dX4_addRule_13 : decode cX4_addRule 13 = .ok (.iload 4, 2) := by decide +kernel
theorem dX4_addRule_15 : decode cX4_addRule 15 = .ok (.iconst 2, 1) := by decide +kernel
theorem dX4_addRule_16 : decode cX4_addRule 16 = .ok (.iadd, 1) := by decide +kernel
theorem dX4_addRule_17 : decode cX4_addRule 17 = .ok (.aload_n 0, 1) := by decide +kernel
theorem dX4_addRule_18 : decode cX4_addRule 18 = .ok (.getfield 18, 3) := by decide +kernel
theorem dX4_addRule_21 : decode cX4_addRule 21 = .ok (.arraylength, 1) := by decide +kernel
theorem dX4_addRule_22 : decode cX4_addRule 22 = .ok (.if_icmp .lt 5, 3) := by decide +kernel
theorem dX4_addRule_25 : decode cX4_addRule 25 = .ok (.iconst 0, 1) := by decide +kernel
theorem dX4_addRule_26 : decode cX4_addRule 26 = .ok (.ireturn, 1) := by decide +kernel
theorem dX4_addRule_27 : decode cX4_addRule 27 = .ok (.aload_n 0, 1) := by decide +kernel
theorem dX4_addRule_28 : decode cX4_addRule 28 = .ok (.getfield 18, 3) := by decide +kernel
theorem dX4_addRule_31 : decode cX4_addRule 31 = .ok (.iload 4, 2) := by decide +kernel
theorem dX4_addRule_33 : decode cX4_addRule 33 = .ok (.iload_n 1, 1) := by decide +kernel
theorem dX4_addRule_34 : decode cX4_addRule 34 = .ok (.iastore, 1) := by decide +kernel
theorem dX4_addRule_35 : decode cX4_addRule 35 = .ok (.aload_n 0, 1) := by decide +kernel
theorem dX4_addRule_36 : decode cX4_addRule 36 = .ok (.getfield 18, 3) := by decide +kernel
theorem dX4_addRule_39 : decode cX4_addRule 39 = .ok (.iload 4, 2) := by decide +kernel
theorem dX4_addRule_41 : decode cX4_addRule 41 = .ok (.iconst 1, 1) := by decide +kernel
theorem dX4_addRule_42 : decode cX4_addRule 42 = .ok (.iadd, 1) := by decide +kernel
theorem dX4_addRule_43 : decode cX4_addRule 43 = .ok (.iload_n 2, 1) := by decide +kernel
theorem dX4_addRule_44 : decode cX4_addRule 44 = .ok (.iastore, 1) := by decide +kernel
theorem dX4_addRule_45 : decode cX4_addRule 45 = .ok (.aload_n 0, 1) := by decide +kernel
theorem dX4_addRule_46 : decode cX4_addRule 46 = .ok (.getfield 18, 3) := by decide +kernel
theorem dX4_addRule_49 : decode cX4_addRule 49 = .ok (.iload 4, 2) := by decide +kernel
theorem dX4_addRule_51 : decode cX4_addRule 51 = .ok (.iconst 2, 1) := by decide +kernel
theorem dX4_addRule_52 : decode cX4_addRule 52 = .ok (.iadd, 1) := by decide +kernel
theorem dX4_addRule_53 : decode cX4_addRule 53 = .ok (.iload_n 3, 1) := by decide +kernel
theorem dX4_addRule_54 : decode cX4_addRule 54 = .ok (.iastore, 1) := by decide +kernel
theorem dX4_addRule_55 : decode cX4_addRule 55 = .ok (.aload_n 0, 1) := by decide +kernel
theorem dX4_addRule_56 : decode cX4_addRule 56 = .ok (.dup, 1) := by decide +kernel
theorem dX4_addRule_57 : decode cX4_addRule 57 = .ok (.getfield 22, 3) := by decide +kernel
theorem dX4_addRule_60 : decode cX4_addRule 60 = .ok (.iconst 1, 1) := by decide +kernel
theorem dX4_addRule_61 : decode cX4_addRule 61 = .ok (.iadd, 1) := by decide +kernel
theorem dX4_addRule_62 : decode cX4_addRule 62 = .ok (.putfield 22, 3) := by decide +kernel
theorem dX4_addRule_65 : decode cX4_addRule 65 = .ok (.iconst 1, 1) := by decide +kernel
theorem dX4_addRule_66 : decode cX4_addRule 66 = .ok (.ireturn, 1) := by decide +kernel
theorem dX4_dropRule_0 : decode cX4_dropRule 0 = .ok (.aload_n 0, 1) := by decide +kernel
theorem dX4_dropRule_1 : decode cX4_dropRule 1 = .ok (.iload_n 1, 1) := by decide +kernel
theorem dX4_dropRule_2 : decode cX4_dropRule 2 = .ok (.invokevirtual 26, 3) := by decide +kernel
theorem dX4_dropRule_5 : decode cX4_dropRule 5 = .ok (.ifCond .ne 4, 3) := by decide +kernel
theorem dX4_dropRule_8 : decode cX4_dropRule 8 = .ok (.return_, 1) := by decide +kernel
theorem dX4_dropRule_9 : decode cX4_dropRule 9 = .ok (.iconst 3, 1) := by decide +kernel
theorem dX4_dropRule_10 : decode cX4_dropRule 10 = .ok (.iload_n 1, 1) := by decide +kernel
theorem dX4_dropRule_11 : decode cX4_dropRule 11 = .ok (.imul, 1) := by decide +kernel
theorem dX4_dropRule_12 : decode cX4_dropRule 12 = .ok (.istore_n 2, 1) := by decide +kernel
theorem dX4_dropRule_13 : decode cX4_dropRule 13 = .ok (.iload_n 2, 1) := by decide +kernel
theorem dX4_dropRule_14 : decode cX4_dropRule 14 = .ok (.iconst 3, 1) := by decide +kernel
theorem dX4_dropRule_15 : decode cX4_dropRule 15 = .ok (.iadd, 1) := by decide +kernel
theorem dX4_dropRule_16 : decode cX4_dropRule 16 = .ok (.aload_n 0, 1) := by decide +kernel
theorem dX4_dropRule_17 : decode cX4_dropRule 17 = .ok (.getfield 18, 3) := by decide +kernel
theorem dX4_dropRule_20 : decode cX4_dropRule 20 = .ok (.arraylength, 1) := by decide +kernel
theorem dX4_dropRule_21 : decode cX4_dropRule 21 = .ok (.if_icmp .ge 23, 3) := by decide +kernel
theorem dX4_dropRule_24 : decode cX4_dropRule 24 = .ok (.aload_n 0, 1) := by decide +kernel
theorem dX4_dropRule_25 : decode cX4_dropRule 25 = .ok (.getfield 18, 3) := by decide +kernel
theorem dX4_dropRule_28 : decode cX4_dropRule 28 = .ok (.iload_n 2, 1) := by decide +kernel
theorem dX4_dropRule_29 : decode cX4_dropRule 29 = .ok (.aload_n 0, 1) := by decide +kernel
theorem dX4_dropRule_30 : decode cX4_dropRule 30 = .ok (.getfield 18, 3) := by decide +kernel
theorem dX4_dropRule_33 : decode cX4_dropRule 33 = .ok (.iload_n 2, 1) := by decide +kernel
theorem dX4_dropRule_34 : decode cX4_dropRule 34 = .ok (.iconst 3, 1) := by decide +kernel
theorem dX4_dropRule_35 : decode cX4_dropRule 35 = .ok (.iadd, 1) := by decide +kernel
theorem dX4_dropRule_36 : decode cX4_dropRule 36 = .ok (.iaload, 1) := by decide +kernel
theorem dX4_dropRule_37 : decode cX4_dropRule 37 = .ok (.iastore, 1) := by decide +kernel
theorem dX4_dropRule_38 : decode cX4_dropRule 38 = .ok (.iinc 2 1, 3) := by decide +kernel
theorem dX4_dropRule_41 : decode cX4_dropRule 41 = .ok (.goto (-28), 3) := by decide +kernel
theorem dX4_dropRule_44 : decode cX4_dropRule 44 = .ok (.aload_n 0, 1) := by decide +kernel
theorem dX4_dropRule_45 : decode cX4_dropRule 45 = .ok (.dup, 1) := by decide +kernel
theorem dX4_dropRule_46 : decode cX4_dropRule 46 = .ok (.getfield 22, 3) := by decide +kernel
theorem dX4_dropRule_49 : decode cX4_dropRule 49 = .ok (.iconst 1, 1) := by decide +kernel
theorem dX4_dropRule_50 : decode cX4_dropRule 50 = .ok (.isub, 1) := by decide +kernel
theorem dX4_dropRule_51 : decode cX4_dropRule 51 = .ok (.putfield 22, 3) := by decide +kernel
theorem dX4_dropRule_54 : decode cX4_dropRule 54 = .ok (.return_, 1) := by decide +kernel
theorem dX4_copyOf_0 : decode cX4_copyOf 0 = .ok (.aload_n 0, 1) := by decide +kernel
theorem dX4_copyOf_1 : decode cX4_copyOf 1 = .ok (.getfield 12, 3) := by decide +kernel
theorem dX4_copyOf_4 : decode cX4_copyOf 4 = .ok (.aload_n 1, 1) := by decide +kernel
theorem dX4_copyOf_5 : decode cX4_copyOf 5 = .ok (.getfield 12, 3) := by decide +kernel
theorem dX4_copyOf_8 : decode cX4_copyOf 8 = .ok (.invokevirtual 30, 3) := by decide +kernel
theorem dX4_copyOf_11 : decode cX4_copyOf 11 = .ok (.iconst 0, 1) := by decide +kernel
theorem dX4_copyOf_12 : decode cX4_copyOf 12 = .ok (.istore_n 2, 1) := by decide +kernel
theorem dX4_copyOf_13 : decode cX4_copyOf 13 = .ok (.iload_n 2, 1) := by decide +kernel
theorem dX4_copyOf_14 : decode cX4_copyOf 14 = .ok (.aload_n 0, 1) := by decide +kernel
theorem dX4_copyOf_15 : decode cX4_copyOf 15 = .ok (.getfield 18, 3) := by decide +kernel
theorem dX4_copyOf_18 : decode cX4_copyOf 18 = .ok (.arraylength, 1) := by decide +kernel
theorem dX4_copyOf_19 : decode cX4_copyOf 19 = .ok (.if_icmp .ge 21, 3) := by decide +kernel
theorem dX4_copyOf_22 : decode cX4_copyOf 22 = .ok (.aload_n 0, 1) := by decide +kernel
theorem dX4_copyOf_23 : decode cX4_copyOf 23 = .ok (.getfield 18, 3) := by decide +kernel
theorem dX4_copyOf_26 : decode cX4_copyOf 26 = .ok (.iload_n 2, 1) := by decide +kernel
theorem dX4_copyOf_27 : decode cX4_copyOf 27 = .ok (.aload_n 1, 1) := by decide +kernel
theorem dX4_copyOf_28 : decode cX4_copyOf 28 = .ok (.getfield 18, 3) := by decide +kernel
theorem dX4_copyOf_31 : decode cX4_copyOf 31 = .ok (.iload_n 2, 1) := by decide +kernel
theorem dX4_copyOf_32 : decode cX4_copyOf 32 = .ok (.iaload, 1) := by decide +kernel
theorem dX4_copyOf_33 : decode cX4_copyOf 33 = .ok (.iastore, 1) := by decide +kernel
theorem dX4_copyOf_34 : decode cX4_copyOf 34 = .ok (.iinc 2 1, 3) := by decide +kernel
theorem dX4_copyOf_37 : decode cX4_copyOf 37 = .ok (.goto (-24), 3) := by decide +kernel
theorem dX4_copyOf_40 : decode cX4_copyOf 40 = .ok (.aload_n 0, 1) := by decide +kernel
theorem dX4_copyOf_41 : decode cX4_copyOf 41 = .ok (.aload_n 1, 1) := by decide +kernel
theorem dX4_copyOf_42 : decode cX4_copyOf 42 = .ok (.getfield 22, 3) := by decide +kernel
theorem dX4_copyOf_45 : decode cX4_copyOf 45 = .ok (.putfield 22, 3) := by decide +kernel
theorem dX4_copyOf_48 : decode cX4_copyOf 48 = .ok (.return_, 1) := by decide +kernel
theorem dX5_init_0 : decode cX5_init 0 = .ok (.aload_n 0, 1) := by decide +kernel
theorem dX5_init_1 : decode cX5_init 1 = .ok (.invokespecial 3, 3) := by decide +kernel
theorem dX5_init_4 : decode cX5_init 4 = .ok (.aload_n 0, 1) := by decide +kernel
theorem dX5_init_5 : decode cX5_init 5 = .ok (.new 9, 3) := by decide +kernel
theorem dX5_init_8 : decode cX5_init 8 = .ok (.dup, 1) := by decide +kernel
theorem dX5_init_9 : decode cX5_init 9 = .ok (.invokespecial 11, 3) := by decide +kernel
theorem dX5_init_12 : decode cX5_init 12 = .ok (.putfield 12, 3) := by decide +kernel
theorem dX5_init_15 : decode cX5_init 15 = .ok (.aload_n 0, 1) := by decide +kernel
theorem dX5_init_16 : decode cX5_init 16 = .ok (.new 9, 3) := by decide +kernel
theorem dX5_init_19 : decode cX5_init 19 = .ok (.dup, 1) := by decide +kernel
theorem dX5_init_20 : decode cX5_init 20 = .ok (.invokespecial 11, 3) := by decide +kernel
theorem dX5_init_23 : decode cX5_init 23 = .ok (.putfield 18, 3) := by decide +kernel
theorem dX5_init_26 : decode cX5_init 26 = .ok (.aload_n 0, 1) := by decide +kernel
theorem dX5_init_27 : decode cX5_init 27 = .ok (.new 9, 3) := by decide +kernel
theorem dX5_init_30 : decode cX5_init 30 = .ok (.dup, 1) := by decide +kernel
theorem dX5_init_31 : decode cX5_init 31 = .ok (.invokespecial 11, 3) := by decide +kernel
theorem dX5_init_34 : decode cX5_init 34 = .ok (.putfield 21, 3) := by decide +kernel
theorem dX5_init_37 : decode cX5_init 37 = .ok (.aload_n 0, 1) := by decide +kernel
theorem dX5_init_38 : decode cX5_init 38 = .ok (.sipush 256, 3) := by decide +kernel
theorem dX5_init_41 : decode cX5_init 41 = .ok (.newarray .int, 2) := by decide +kernel
theorem dX5_init_43 : decode cX5_init 43 = .ok (.putfield 26, 3) := by decide +kernel
theorem dX5_init_46 : decode cX5_init 46 = .ok (.aload_n 0, 1) := by decide +kernel
theorem dX5_init_47 : decode cX5_init 47 = .ok (.sipush 256, 3) := by decide +kernel
theorem dX5_init_50 : decode cX5_init 50 = .ok (.newarray .int, 2) := by decide +kernel
theorem dX5_init_52 : decode cX5_init 52 = .ok (.putfield 30, 3) := by decide +kernel
theorem dX5_init_55 : decode cX5_init 55 = .ok (.aload_n 0, 1) := by decide +kernel
theorem dX5_init_56 : decode cX5_init 56 = .ok (.bipush 105, 2) := by decide +kernel
theorem dX5_init_58 : decode cX5_init 58 = .ok (.newarray .int, 2) := by decide +kernel
theorem dX5_init_60 : decode cX5_init 60 = .ok (.putfield 33, 3) := by decide +kernel
theorem dX5_init_63 : decode cX5_init 63 = .ok (.return_, 1) := by decide +kernel
theorem dX5_roundOf_0 : decode cX5_roundOf 0 = .ok (.iload_n 1, 1) := by decide +kernel
theorem dX5_roundOf_1 : decode cX5_roundOf 1 = .ok (.invokestatic 36, 3) := by decide +kernel
theorem dX5_roundOf_4 : decode cX5_roundOf 4 = .ok (.ifCond .eq 12, 3) := by decide +kernel
theorem dX5_roundOf_7 : decode cX5_roundOf 7 = .ok (.aload_n 0, 1) := by decide +kernel
theorem dX5_roundOf_8 : decode cX5_roundOf 8 = .ok (.getfield 26, 3) := by decide +kernel
theorem dX5_roundOf_11 : decode cX5_roundOf 11 = .ok (.iload_n 1, 1) := by decide +kernel
theorem dX5_roundOf_12 : decode cX5_roundOf 12 = .ok (.iaload, 1) := by decide +kernel
theorem dX5_roundOf_13 : decode cX5_roundOf 13 = .ok (.goto 4, 3) := by decide +kernel
theorem dX5_roundOf_16 : decode cX5_roundOf 16 = .ok (.iconst (-1), 1) := by decide +kernel
theorem dX5_roundOf_17 : decode cX5_roundOf 17 = .ok (.ireturn, 1) := by decide +kernel
theorem dX5_ruleOf_0 : decode cX5_ruleOf 0 = .ok (.iload_n 1, 1) := by decide +kernel
theorem dX5_ruleOf_1 : decode cX5_ruleOf 1 = .ok (.invokestatic 36, 3) := by decide +kernel
theorem dX5_ruleOf_4 : decode cX5_ruleOf 4 = .ok (.ifCond .eq 12, 3) := by decide +kernel
theorem dX5_ruleOf_7 : decode cX5_ruleOf 7 = .ok (.aload_n 0, 1) := by decide +kernel
theorem dX5_ruleOf_8 : decode cX5_ruleOf 8 = .ok (.getfield 30, 3) := by decide +kernel
theorem dX5_ruleOf_11 : decode cX5_ruleOf 11 = .ok (.iload_n 1, 1) := by decide +kernel
theorem dX5_ruleOf_12 : decode cX5_ruleOf 12 = .ok (.iaload, 1) := by decide +kernel
theorem dX5_ruleOf_13 : decode cX5_ruleOf 13 = .ok (.goto 4, 3) := by decide +kernel
theorem dX5_ruleOf_16 : decode cX5_ruleOf 16 = .ok (.iconst (-1), 1) := by decide +kernel
theorem dX5_ruleOf_17 : decode cX5_ruleOf 17 = .ok (.ireturn, 1) := by decide +kernel
theorem dX5_sizeBehind_0 : decode cX5_sizeBehind 0 = .ok (.iload_n 1, 1) := by decide +kernel
theorem dX5_sizeBehind_1 : decode cX5_sizeBehind 1 = .ok (.aload_n 0, 1) := by decide +kernel
theorem dX5_sizeBehind_2 : decode cX5_sizeBehind 2 = .ok (.getfield 40, 3) := by decide +kernel
theorem dX5_sizeBehind_5 : decode cX5_sizeBehind 5 = .ok (.invokestatic 44, 3) := by decide +kernel
theorem dX5_sizeBehind_8 : decode cX5_sizeBehind 8 = .ok (.istore_n 2, 1) := by decide +kernel
theorem dX5_sizeBehind_9 : decode cX5_sizeBehind 9 = .ok (.iload_n 2, 1) := by decide +kernel
theorem dX5_sizeBehind_10 : decode cX5_sizeBehind 10 = .ok (.ifCond .lt 21, 3) := by decide +kernel
theorem dX5_sizeBehind_13 : decode cX5_sizeBehind 13 = .ok (.iload_n 2, 1) := by decide +kernel
theorem dX5_sizeBehind_14 : decode cX5_sizeBehind 14 = .ok (.aload_n 0, 1) := by decide +kernel
theorem dX5_sizeBehind_15 : decode cX5_sizeBehind 15 = .ok (.getfield 33, 3) := by decide +kernel
theorem dX5_sizeBehind_18 : decode cX5_sizeBehind 18 = .ok (.arraylength, 1) := by decide +kernel
theorem dX5_sizeBehind_19 : decode cX5_sizeBehind 19 = .ok (.if_icmp .ge 12, 3) := by decide +kernel
theorem dX5_sizeBehind_22 : decode cX5_sizeBehind 22 = .ok (.aload_n 0, 1) := by decide +kernel
theorem dX5_sizeBehind_23 : decode cX5_sizeBehind 23 = .ok (.getfield 33, 3) := by decide +kernel
theorem dX5_sizeBehind_26 : decode cX5_sizeBehind 26 = .ok (.iload_n 2, 1) := by decide +kernel
theorem dX5_sizeBehind_27 : decode cX5_sizeBehind 27 = .ok (.iaload, 1) := by decide +kernel
theorem dX5_sizeBehind_28 : decode cX5_sizeBehind 28 = .ok (.goto 4, 3) := by decide +kernel
theorem dX5_sizeBehind_31 : decode cX5_sizeBehind 31 = .ok (.iconst 0, 1) := by decide +kernel
theorem dX5_sizeBehind_32 : decode cX5_sizeBehind 32 = .ok (.ireturn, 1) := by decide +kernel
theorem dX5_run_0 : decode cX5_run 0 = .ok (.aload_n 0, 1) := by decide +kernel
theorem dX5_run_1 : decode cX5_run 1 = .ok (.getfield 26, 3) := by decide +kernel
theorem dX5_run_4 : decode cX5_run 4 = .ok (.iconst 0, 1) := by decide +kernel
theorem dX5_run_5 : decode cX5_run 5 = .ok (.invokestatic 50, 3) := by decide +kernel
theorem dX5_run_8 : decode cX5_run 8 = .ok (.aload_n 0, 1) := by decide +kernel
theorem dX5_run_9 : decode cX5_run 9 = .ok (.getfield 30, 3) := by decide +kernel
theorem dX5_run_12 : decode cX5_run 12 = .ok (.iconst (-1), 1) := by decide +kernel
theorem dX5_run_13 : decode cX5_run 13 = .ok (.invokestatic 50, 3) := by decide +kernel
theorem dX5_run_16 : decode cX5_run 16 = .ok (.aload_n 0, 1) := by decide +kernel
theorem dX5_run_17 : decode cX5_run 17 = .ok (.iconst 0, 1) := by decide +kernel
theorem dX5_run_18 : decode cX5_run 18 = .ok (.putfield 40, 3) := by decide +kernel
theorem dX5_run_21 : decode cX5_run 21 = .ok (.aload_n 0, 1) := by decide +kernel
theorem dX5_run_22 : decode cX5_run 22 = .ok (.iconst 0, 1) := by decide +kernel
theorem dX5_run_23 : decode cX5_run 23 = .ok (.putfield 56, 3) := by decide +kernel
theorem dX5_run_26 : decode cX5_run 26 = .ok (.aload_n 0, 1) := by decide +kernel
theorem dX5_run_27 : decode cX5_run 27 = .ok (.getfield 12, 3) := by decide +kernel
theorem dX5_run_30 : decode cX5_run 30 = .ok (.aload_n 1, 1) := by decide +kernel
theorem dX5_run_31 : decode cX5_run 31 = .ok (.getfield 59, 3) := by decide +kernel
theorem dX5_run_34 : decode cX5_run 34 = .ok (.invokevirtual 64, 3) := by decide +kernel
theorem dX5_run_37 : decode cX5_run 37 = .ok (.aload_n 0, 1) := by decide +kernel
theorem dX5_run_38 : decode cX5_run 38 = .ok (.aload_n 0, 1) := by decide +kernel
theorem dX5_run_39 : decode cX5_run 39 = .ok (.getfield 12, 3) := by decide +kernel
theorem dX5_run_42 : decode cX5_run 42 = .ok (.invokevirtual 68, 3) := by decide +kernel
theorem dX5_run_45 : decode cX5_run 45 = .ok (.putfield 72, 3) := by decide +kernel
theorem dX5_run_48 : decode cX5_run 48 = .ok (.aload_n 0, 1) := by decide +kernel
theorem dX5_run_49 : decode cX5_run 49 = .ok (.getfield 18, 3) := by decide +kernel
theorem dX5_run_52 : decode cX5_run 52 = .ok (.aload_n 0, 1) := by decide +kernel
theorem dX5_run_53 : decode cX5_run 53 = .ok (.getfield 12, 3) := by decide +kernel
theorem dX5_run_56 : decode cX5_run 56 = .ok (.invokevirtual 75, 3) := by decide +kernel
theorem dX5_run_59 : decode cX5_run 59 = .ok (.aload_n 0, 1) := by decide +kernel
theorem dX5_run_60 : decode cX5_run 60 = .ok (.getfield 33, 3) := by decide +kernel
theorem dX5_run_63 : decode cX5_run 63 = .ok (.iconst 0, 1) := by decide +kernel
theorem dX5_run_64 : decode cX5_run 64 = .ok (.aload_n 0, 1) := by decide +kernel
theorem dX5_run_65 : decode cX5_run 65 = .ok (.getfield 12, 3) := by decide +kernel
theorem dX5_run_68 : decode cX5_run 68 = .ok (.invokevirtual 78, 3) := by decide +kernel
theorem dX5_run_71 : decode cX5_run 71 = .ok (.iastore, 1) := by decide +kernel
theorem dX5_run_72 : decode cX5_run 72 = .ok (.iconst 1, 1) := by decide +kernel
theorem dX5_run_73 : decode cX5_run 73 = .ok (.istore_n 2, 1) := by decide +kernel
theorem dX5_run_74 : decode cX5_run 74 = .ok (.iload_n 2, 1) := by decide +kernel
theorem dX5_run_75 : decode cX5_run 75 = .ok (.aload_n 0, 1) := by decide +kernel
theorem dX5_run_76 : decode cX5_run 76 = .ok (.getfield 33, 3) := by decide +kernel
theorem dX5_run_79 : decode cX5_run 79 = .ok (.arraylength, 1) := by decide +kernel
theorem dX5_run_80 : decode cX5_run 80 = .ok (.if_icmp .ge 105, 3) := by decide +kernel
theorem dX5_run_83 : decode cX5_run 83 = .ok (.aload_n 0, 1) := by decide +kernel
theorem dX5_run_84 : decode cX5_run 84 = .ok (.getfield 21, 3) := by decide +kernel
theorem dX5_run_87 : decode cX5_run 87 = .ok (.invokevirtual 81, 3) := by decide +kernel
theorem dX5_run_90 : decode cX5_run 90 = .ok (.iconst 0, 1) := by decide +kernel
theorem dX5_run_91 : decode cX5_run 91 = .ok (.istore_n 3, 1) := by decide +kernel
theorem dX5_run_92 : decode cX5_run 92 = .ok (.iload_n 3, 1) := by decide +kernel
theorem dX5_run_93 : decode cX5_run 93 = .ok (.aload_n 1, 1) := by decide +kernel
theorem dX5_run_94 : decode cX5_run 94 = .ok (.invokevirtual 84, 3) := by decide +kernel
theorem dX5_run_97 : decode cX5_run 97 = .ok (.if_icmp .ge 15, 3) := by decide +kernel
theorem dX5_run_100 : decode cX5_run 100 = .ok (.aload_n 0, 1) := by decide +kernel
theorem dX5_run_101 : decode cX5_run 101 = .ok (.aload_n 1, 1) := by decide +kernel
theorem dX5_run_102 : decode cX5_run 102 = .ok (.iload_n 3, 1) := by decide +kernel
theorem dX5_run_103 : decode cX5_run 103 = .ok (.invokevirtual 87, 3) := by decide +kernel
theorem dX5_run_106 : decode cX5_run 106 = .ok (.iinc 3 1, 3) := by decide +kernel
theorem dX5_run_109 : decode cX5_run 109 = .ok (.goto (-17), 3) := by decide +kernel
theorem dX5_run_112 : decode cX5_run 112 = .ok (.aload_n 0, 1) := by decide +kernel
theorem dX5_run_113 : decode cX5_run 113 = .ok (.getfield 21, 3) := by decide +kernel
theorem dX5_run_116 : decode cX5_run 116 = .ok (.invokevirtual 78, 3) := by decide +kernel
theorem dX5_run_119 : decode cX5_run 119 = .ok (.ifCond .ne 4, 3) := by decide +kernel
theorem dX5_run_122 : decode cX5_run 122 = .ok (.return_, 1) := by decide +kernel
theorem dX5_run_123 : decode cX5_run 123 = .ok (.aload_n 0, 1) := by decide +kernel
theorem dX5_run_124 : decode cX5_run 124 = .ok (.iload_n 2, 1) := by decide +kernel
theorem dX5_run_125 : decode cX5_run 125 = .ok (.putfield 40, 3) := by decide +kernel
theorem dX5_run_128 : decode cX5_run 128 = .ok (.aload_n 0, 1) := by decide +kernel
theorem dX5_run_129 : decode cX5_run 129 = .ok (.getfield 12, 3) := by decide +kernel
theorem dX5_run_132 : decode cX5_run 132 = .ok (.aload_n 0, 1) := by decide +kernel
theorem dX5_run_133 : decode cX5_run 133 = .ok (.getfield 21, 3) := by decide +kernel
theorem dX5_run_136 : decode cX5_run 136 = .ok (.invokevirtual 91, 3) := by decide +kernel
theorem dX5_run_139 : decode cX5_run 139 = .ok (.aload_n 0, 1) := by decide +kernel
theorem dX5_run_140 : decode cX5_run 140 = .ok (.dup, 1) := by decide +kernel
theorem dX5_run_141 : decode cX5_run 141 = .ok (.getfield 72, 3) := by decide +kernel
theorem dX5_run_144 : decode cX5_run 144 = .ok (.aload_n 0, 1) := by decide +kernel
theorem dX5_run_145 : decode cX5_run 145 = .ok (.getfield 12, 3) := by decide +kernel
theorem dX5_run_148 : decode cX5_run 148 = .ok (.invokevirtual 68, 3) := by decide +kernel
theorem dX5_run_151 : decode cX5_run 151 = .ok (.iadd, 1) := by decide +kernel
theorem dX5_run_152 : decode cX5_run 152 = .ok (.putfield 72, 3) := by decide +kernel
theorem dX5_run_155 : decode cX5_run 155 = .ok (.aload_n 0, 1) := by decide +kernel
theorem dX5_run_156 : decode cX5_run 156 = .ok (.getfield 18, 3) := by decide +kernel
theorem dX5_run_159 : decode cX5_run 159 = .ok (.aload_n 0, 1) := by decide +kernel
theorem dX5_run_160 : decode cX5_run 160 = .ok (.getfield 12, 3) := by decide +kernel
theorem dX5_run_163 : decode cX5_run 163 = .ok (.invokevirtual 75, 3) := by decide +kernel
theorem dX5_run_166 : decode cX5_run 166 = .ok (.aload_n 0, 1) := by decide +kernel
theorem dX5_run_167 : decode cX5_run 167 = .ok (.getfield 33, 3) := by decide +kernel
theorem dX5_run_170 : decode cX5_run 170 = .ok (.iload_n 2, 1) := by decide +kernel
theorem dX5_run_171 : decode cX5_run 171 = .ok (.aload_n 0, 1) := by decide +kernel
theorem dX5_run_172 : decode cX5_run 172 = .ok (.getfield 12, 3) := by decide +kernel
theorem dX5_run_175 : decode cX5_run 175 = .ok (.invokevirtual 78, 3) := by decide +kernel
theorem dX5_run_178 : decode cX5_run 178 = .ok (.iastore, 1) := by decide +kernel
theorem dX5_run_179 : decode cX5_run 179 = .ok (.iinc 2 1, 3) := by decide +kernel
theorem dX5_run_182 : decode cX5_run 182 = .ok (.goto (-108), 3) := by decide +kernel
theorem dX5_run_185 : decode cX5_run 185 = .ok (.return_, 1) := by decide +kernel
theorem dX5_playRule_0 : decode cX5_playRule 0 = .ok (.aload_n 1, 1) := by decide +kernel
theorem dX5_playRule_1 : decode cX5_playRule 1 = .ok (.iload_n 2, 1) := by decide +kernel
theorem dX5_playRule_2 : decode cX5_playRule 2 = .ok (.iconst 0, 1) := by decide +kernel
theorem dX5_playRule_3 : decode cX5_playRule 3 = .ok (.invokevirtual 94, 3) := by decide +kernel
theorem dX5_playRule_6 : decode cX5_playRule 6 = .ok (.istore_n 3, 1) := by decide +kernel
theorem dX5_playRule_7 : decode cX5_playRule 7 = .ok (.aload_n 1, 1) := by decide +kernel
theorem dX5_playRule_8 : decode cX5_playRule 8 = .ok (.iload_n 2, 1) := by decide +kernel
theorem dX5_playRule_9 : decode cX5_playRule 9 = .ok (.iconst 1, 1) := by decide +kernel
theorem dX5_playRule_10 : decode cX5_playRule 10 = .ok (.invokevirtual 94, 3) := by decide +kernel
theorem dX5_playRule_13 : decode cX5_playRule 13 = .ok (.istore 4, 2) := by decide +kernel
theorem dX5_playRule_15 : decode cX5_playRule 15 = .ok (.aload_n 1, 1) := by decide +kernel
theorem dX5_playRule_16 : decode cX5_playRule 16 = .ok (.iload_n 2, 1) := by decide +kernel
theorem dX5_playRule_17 : decode cX5_playRule 17 = .ok (.iconst 2, 1) := by decide +kernel
theorem dX5_playRule_18 : decode cX5_playRule 18 = .ok (.invokevirtual 94, 3) := by decide +kernel
theorem dX5_playRule_21 : decode cX5_playRule 21 = .ok (.istore 5, 2) := by decide +kernel
theorem dX5_playRule_23 : decode cX5_playRule 23 = .ok (.iconst 0, 1) := by decide +kernel
theorem dX5_playRule_24 : decode cX5_playRule 24 = .ok (.istore 6, 2) := by decide +kernel
theorem dX5_playRule_26 : decode cX5_playRule 26 = .ok (.iload 6, 2) := by decide +kernel
theorem dX5_playRule_28 : decode cX5_playRule 28 = .ok (.bipush 38, 2) := by decide +kernel
theorem dX5_playRule_30 : decode cX5_playRule 30 = .ok (.if_icmp .ge 119, 3) := by decide +kernel
theorem dX5_playRule_33 : decode cX5_playRule 33 = .ok (.aload_n 0, 1) := by decide +kernel
theorem dX5_playRule_34 : decode cX5_playRule 34 = .ok (.getfield 12, 3) := by decide +kernel
theorem dX5_playRule_37 : decode cX5_playRule 37 = .ok (.iload 4, 2) := by decide +kernel
theorem dX5_playRule_39 : decode cX5_playRule 39 = .ok (.iload 6, 2) := by decide +kernel
theorem dX5_playRule_41 : decode cX5_playRule 41 = .ok (.invokevirtual 97, 3) := by decide +kernel
theorem dX5_playRule_44 : decode cX5_playRule 44 = .ok (.ifCond .ne 6, 3) := by decide +kernel
theorem dX5_playRule_47 : decode cX5_playRule 47 = .ok (.goto 96, 3) := by decide +kernel
theorem dX5_playRule_50 : decode cX5_playRule 50 = .ok (.ldc2_w 103, 3) := by decide +kernel
theorem dX5_playRule_53 : decode cX5_playRule 53 = .ok (.iload 4, 2) := by decide +kernel
theorem dX5_playRule_55 : decode cX5_playRule 55 = .ok (.iload 6, 2) := by decide +kernel
theorem dX5_playRule_57 : decode cX5_playRule 57 = .ok (.iconst 4, 1) := by decide +kernel
theorem dX5_playRule_58 : decode cX5_playRule 58 = .ok (.invokestatic 105, 3) := by decide +kernel
theorem dX5_playRule_61 : decode cX5_playRule 61 = .ok (.lstore 7, 2) := by decide +kernel
theorem dX5_playRule_63 : decode cX5_playRule 63 = .ok (.lload 7, 2) := by decide +kernel
theorem dX5_playRule_65 : decode cX5_playRule 65 = .ok (.ldc2_w 109, 3) := by decide +kernel
theorem dX5_playRule_68 : decode cX5_playRule 68 = .ok (.lcmp, 1) := by decide +kernel
theorem dX5_playRule_69 : decode cX5_playRule 69 = .ok (.ifCond .ne 6, 3) := by decide +kernel
theorem dX5_playRule_72 : decode cX5_playRule 72 = .ok (.goto 71, 3) := by decide +kernel
theorem dX5_playRule_75 : decode cX5_playRule 75 = .ok (.iload 5, 2) := by decide +kernel
theorem dX5_playRule_77 : decode cX5_playRule 77 = .ok (.iconst (-1), 1) := by decide +kernel
theorem dX5_playRule_78 : decode cX5_playRule 78 = .ok (.if_icmp .ne 14, 3) := by decide +kernel
theorem dX5_playRule_81 : decode cX5_playRule 81 = .ok (.aload_n 0, 1) := by decide +kernel
theorem dX5_playRule_82 : decode cX5_playRule 82 = .ok (.lload 7, 2) := by decide +kernel
theorem dX5_playRule_84 : decode cX5_playRule 84 = .ok (.iload_n 3, 1) := by decide +kernel
theorem dX5_playRule_85 : decode cX5_playRule 85 = .ok (.iload_n 2, 1) := by decide +kernel
theorem dX5_playRule_86 : decode cX5_playRule 86 = .ok (.invokevirtual 111, 3) := by decide +kernel
theorem dX5_playRule_89 : decode cX5_playRule 89 = .ok (.goto 54, 3) := by decide +kernel
theorem dX5_playRule_92 : decode cX5_playRule 92 = .ok (.iconst 0, 1) := by decide +kernel
theorem dX5_playRule_93 : decode cX5_playRule 93 = .ok (.istore 9, 2) := by decide +kernel
theorem dX5_playRule_95 : decode cX5_playRule 95 = .ok (.iload 9, 2) := by decide +kernel
theorem dX5_playRule_97 : decode cX5_playRule 97 = .ok (.bipush 38, 2) := by decide +kernel
theorem dX5_playRule_99 : decode cX5_playRule 99 = .ok (.if_icmp .ge 44, 3) := by decide +kernel
theorem dX5_playRule_102 : decode cX5_playRule 102 = .ok (.aload_n 0, 1) := by decide +kernel
theorem dX5_playRule_103 : decode cX5_playRule 103 = .ok (.getfield 12, 3) := by decide +kernel
theorem dX5_playRule_106 : decode cX5_playRule 106 = .ok (.iload 5, 2) := by decide +kernel
theorem dX5_playRule_108 : decode cX5_playRule 108 = .ok (.iload 9, 2) := by decide +kernel
theorem dX5_playRule_110 : decode cX5_playRule 110 = .ok (.invokevirtual 97, 3) := by decide +kernel
theorem dX5_playRule_113 : decode cX5_playRule 113 = .ok (.ifCond .eq 24, 3) := by decide +kernel
theorem dX5_playRule_116 : decode cX5_playRule 116 = .ok (.lload 7, 2) := by decide +kernel
theorem dX5_playRule_118 : decode cX5_playRule 118 = .ok (.iload 5, 2) := by decide +kernel
theorem dX5_playRule_120 : decode cX5_playRule 120 = .ok (.iload 9, 2) := by decide +kernel
theorem dX5_playRule_122 : decode cX5_playRule 122 = .ok (.bipush 6, 2) := by decide +kernel
theorem dX5_playRule_124 : decode cX5_playRule 124 = .ok (.invokestatic 105, 3) := by decide +kernel
theorem dX5_playRule_127 : decode cX5_playRule 127 = .ok (.lstore 10, 2) := by decide +kernel
theorem dX5_playRule_129 : decode cX5_playRule 129 = .ok (.aload_n 0, 1) := by decide +kernel
theorem dX5_playRule_130 : decode cX5_playRule 130 = .ok (.lload 10, 2) := by decide +kernel
theorem dX5_playRule_132 : decode cX5_playRule 132 = .ok (.iload_n 3, 1) := by decide +kernel
theorem dX5_playRule_133 : decode cX5_playRule 133 = .ok (.iload_n 2, 1) := by decide +kernel
theorem dX5_playRule_134 : decode cX5_playRule 134 = .ok (.invokevirtual 111, 3) := by decide +kernel
theorem dX5_playRule_137 : decode cX5_playRule 137 = .ok (.iinc 9 1, 3) := by decide +kernel
theorem dX5_playRule_140 : decode cX5_playRule 140 = .ok (.goto (-45), 3) := by decide +kernel
theorem dX5_playRule_143 : decode cX5_playRule 143 = .ok (.iinc 6 1, 3) := by decide +kernel
theorem dX5_playRule_146 : decode cX5_playRule 146 = .ok (.goto (-120), 3) := by decide +kernel
theorem dX5_playRule_149 : decode cX5_playRule 149 = .ok (.return_, 1) := by decide +kernel
theorem dX5_takeMatch_0 : decode cX5_takeMatch 0 = .ok (.lload_n 1, 1) := by decide +kernel
theorem dX5_takeMatch_1 : decode cX5_takeMatch 1 = .ok (.ldc2_w 109, 3) := by decide +kernel
theorem dX5_takeMatch_4 : decode cX5_takeMatch 4 = .ok (.lcmp, 1) := by decide +kernel
theorem dX5_takeMatch_5 : decode cX5_takeMatch 5 = .ok (.ifCond .ne 4, 3) := by decide +kernel
theorem dX5_takeMatch_8 : decode cX5_takeMatch 8 = .ok (.return_, 1) := by decide +kernel
theorem dX5_takeMatch_9 : decode cX5_takeMatch 9 = .ok (.aload_n 0, 1) := by decide +kernel
theorem dX5_takeMatch_10 : decode cX5_takeMatch 10 = .ok (.dup, 1) := by decide +kernel
theorem dX5_takeMatch_11 : decode cX5_takeMatch 11 = .ok (.getfield 56, 3) := by decide +kernel
theorem dX5_takeMatch_14 : decode cX5_takeMatch 14 = .ok (.iconst 1, 1) := by decide +kernel
theorem dX5_takeMatch_15 : decode cX5_takeMatch 15 = .ok (.iadd, 1) := by decide +kernel
theorem dX5_takeMatch_16 : decode cX5_takeMatch 16 = .ok (.putfield 56, 3) := by decide +kernel
theorem dX5_takeMatch_19 : decode cX5_takeMatch 19 = .ok (.lload_n 1, 1) := by decide +kernel
theorem dX5_takeMatch_20 : decode cX5_takeMatch 20 = .ok (.iload_n 3, 1) := by decide +kernel
theorem dX5_takeMatch_21 : decode cX5_takeMatch 21 = .ok (.invokestatic 115, 3) := by decide +kernel
theorem dX5_takeMatch_24 : decode cX5_takeMatch 24 = .ok (.istore 5, 2) := by decide +kernel
theorem dX5_takeMatch_26 : decode cX5_takeMatch 26 = .ok (.aload_n 0, 1) := by decide +kernel
theorem dX5_takeMatch_27 : decode cX5_takeMatch 27 = .ok (.getfield 18, 3) := by decide +kernel
theorem dX5_takeMatch_30 : decode cX5_takeMatch 30 = .ok (.iload 5, 2) := by decide +kernel
theorem dX5_takeMatch_32 : decode cX5_takeMatch 32 = .ok (.invokevirtual 119, 3) := by decide +kernel
theorem dX5_takeMatch_35 : decode cX5_takeMatch 35 = .ok (.ifCond .ne 15, 3) := by decide +kernel
theorem dX5_takeMatch_38 : decode cX5_takeMatch 38 = .ok (.aload_n 0, 1) := by decide +kernel
theorem dX5_takeMatch_39 : decode cX5_takeMatch 39 = .ok (.getfield 21, 3) := by decide +kernel
theorem dX5_takeMatch_42 : decode cX5_takeMatch 42 = .ok (.iload 5, 2) := by decide +kernel
theorem dX5_takeMatch_44 : decode cX5_takeMatch 44 = .ok (.invokevirtual 119, 3) := by decide +kernel
theorem dX5_takeMatch_47 : decode cX5_takeMatch 47 = .ok (.ifCond .eq 4, 3) := by decide +kernel
theorem dX5_takeMatch_50 : decode cX5_takeMatch 50 = .ok (.return_, 1) := by decide +kernel
theorem dX5_takeMatch_51 : decode cX5_takeMatch 51 = .ok (.aload_n 0, 1) := by decide +kernel
theorem dX5_takeMatch_52 : decode cX5_takeMatch 52 = .ok (.getfield 21, 3) := by decide +kernel
theorem dX5_takeMatch_55 : decode cX5_takeMatch 55 = .ok (.iload 5, 2) := by decide +kernel
theorem dX5_takeMatch_57 : decode cX5_takeMatch 57 = .ok (.invokevirtual 122, 3) := by decide +kernel
theorem dX5_takeMatch_60 : decode cX5_takeMatch 60 = .ok (.iload 5, 2) := by decide +kernel
theorem dX5_takeMatch_62 : decode cX5_takeMatch 62 = .ok (.invokestatic 36, 3) := by decide +kernel
theorem dX5_takeMatch_65 : decode cX5_takeMatch 65 = .ok (.ifCond .eq 25, 3) := by decide +kernel
theorem dX5_takeMatch_68 : decode cX5_takeMatch 68 = .ok (.aload_n 0, 1) := by decide +kernel
theorem dX5_takeMatch_69 : decode cX5_takeMatch 69 = .ok (.getfield 26, 3) := by decide +kernel
theorem dX5_takeMatch_72 : decode cX5_takeMatch 72 = .ok (.iload 5, 2) := by decide +kernel
theorem dX5_takeMatch_74 : decode cX5_takeMatch 74 = .ok (.aload_n 0, 1) := by decide +kernel
theorem dX5_takeMatch_75 : decode cX5_takeMatch 75 = .ok (.getfield 40, 3) := by decide +kernel
theorem dX5_takeMatch_78 : decode cX5_takeMatch 78 = .ok (.iconst 1, 1) := by decide +kernel
theorem dX5_takeMatch_79 : decode cX5_takeMatch 79 = .ok (.iadd, 1) := by decide +kernel
theorem dX5_takeMatch_80 : decode cX5_takeMatch 80 = .ok (.iastore, 1) := by decide +kernel
theorem dX5_takeMatch_81 : decode cX5_takeMatch 81 = .ok (.aload_n 0, 1) := by decide +kernel
theorem dX5_takeMatch_82 : decode cX5_takeMatch 82 = .ok (.getfield 30, 3) := by decide +kernel
theorem dX5_takeMatch_85 : decode cX5_takeMatch 85 = .ok (.iload 5, 2) := by decide +kernel
theorem dX5_takeMatch_87 : decode cX5_takeMatch 87 = .ok (.iload 4, 2) := by decide +kernel
theorem dX5_takeMatch_89 : decode cX5_takeMatch 89 = .ok (.iastore, 1) := by decide +kernel
theorem dX5_takeMatch_90 : decode cX5_takeMatch 90 = .ok (.return_, 1) := by decide +kernel
theorem dX6_init_0 : decode cX6_init 0 = .ok (.aload_n 0, 1) := by decide +kernel
theorem dX6_init_1 : decode cX6_init 1 = .ok (.invokespecial 3, 3) := by decide +kernel
theorem dX6_init_4 : decode cX6_init 4 = .ok (.aload_n 0, 1) := by decide +kernel
theorem dX6_init_5 : decode cX6_init 5 = .ok (.bipush 60, 2) := by decide +kernel
theorem dX6_init_7 : decode cX6_init 7 = .ok (.newarray .int, 2) := by decide +kernel
theorem dX6_init_9 : decode cX6_init 9 = .ok (.putfield 9, 3) := by decide +kernel
theorem dX6_init_12 : decode cX6_init 12 = .ok (.return_, 1) := by decide +kernel
theorem dX6_size_0 : decode cX6_size 0 = .ok (.aload_n 0, 1) := by decide +kernel
theorem dX6_size_1 : decode cX6_size 1 = .ok (.getfield 15, 3) := by decide +kernel
theorem dX6_size_4 : decode cX6_size 4 = .ok (.ireturn, 1) := by decide +kernel
theorem dX6_at_0 : decode cX6_at 0 = .ok (.iload_n 1, 1) := by decide +kernel
theorem dX6_at_1 : decode cX6_at 1 = .ok (.ifCond .lt 29, 3) := by decide +kernel
theorem dX6_at_4 : decode cX6_at 4 = .ok (.iload_n 1, 1) := by decide +kernel
theorem dX6_at_5 : decode cX6_at 5 = .ok (.aload_n 0, 1) := by decide +kernel
theorem dX6_at_6 : decode cX6_at 6 = .ok (.getfield 15, 3) := by decide +kernel
theorem dX6_at_9 : decode cX6_at 9 = .ok (.if_icmp .ge 21, 3) := by decide +kernel
theorem dX6_at_12 : decode cX6_at 12 = .ok (.iload_n 1, 1) := by decide +kernel
theorem dX6_at_13 : decode cX6_at 13 = .ok (.aload_n 0, 1) := by decide +kernel
theorem dX6_at_14 : decode cX6_at 14 = .ok (.getfield 9, 3) := by decide +kernel
theorem dX6_at_17 : decode cX6_at 17 = .ok (.arraylength, 1) := by decide +kernel
theorem dX6_at_18 : decode cX6_at 18 = .ok (.if_icmp .ge 12, 3) := by decide +kernel
theorem dX6_at_21 : decode cX6_at 21 = .ok (.aload_n 0, 1) := by decide +kernel
theorem dX6_at_22 : decode cX6_at 22 = .ok (.getfield 9, 3) := by decide +kernel
theorem dX6_at_25 : decode cX6_at 25 = .ok (.iload_n 1, 1) := by decide +kernel
theorem dX6_at_26 : decode cX6_at 26 = .ok (.iaload, 1) := by decide +kernel
theorem dX6_at_27 : decode cX6_at 27 = .ok (.goto 4, 3) := by decide +kernel
theorem dX6_at_30 : decode cX6_at 30 = .ok (.iconst (-1), 1) := by decide +kernel
theorem dX6_at_31 : decode cX6_at 31 = .ok (.ireturn, 1) := by decide +kernel
theorem dX7_init_0 : decode cX7_init 0 = .ok (.aload_n 0, 1) := by decide +kernel
theorem dX7_init_1 : decode cX7_init 1 = .ok (.invokespecial 1, 3) := by decide +kernel
theorem dX7_init_4 : decode cX7_init 4 = .ok (.aload_n 0, 1) := by decide +kernel
theorem dX7_init_5 : decode cX7_init 5 = .ok (.new 7, 3) := by decide +kernel
theorem dX7_init_8 : decode cX7_init 8 = .ok (.dup, 1) := by decide +kernel
theorem dX7_init_9 : decode cX7_init 9 = .ok (.invokespecial 9, 3) := by decide +kernel
theorem dX7_init_12 : decode cX7_init 12 = .ok (.putfield 10, 3) := by decide +kernel
theorem dX7_init_15 : decode cX7_init 15 = .ok (.aload_n 0, 1) := by decide +kernel
theorem dX7_init_16 : decode cX7_init 16 = .ok (.bipush 6, 2) := by decide +kernel
theorem dX7_init_18 : decode cX7_init 18 = .ok (.anewarray 7, 3) := by decide +kernel
theorem dX7_init_21 : decode cX7_init 21 = .ok (.putfield 16, 3) := by decide +kernel
theorem dX7_init_24 : decode cX7_init 24 = .ok (.iconst 0, 1) := by decide +kernel
theorem dX7_init_25 : decode cX7_init 25 = .ok (.istore_n 1, 1) := by decide +kernel
theorem dX7_init_26 : decode cX7_init 26 = .ok (.iload_n 1, 1) := by decide +kernel
theorem dX7_init_27 : decode cX7_init 27 = .ok (.aload_n 0, 1) := by decide +kernel
theorem dX7_init_28 : decode cX7_init 28 = .ok (.getfield 16, 3) := by decide +kernel
theorem dX7_init_31 : decode cX7_init 31 = .ok (.arraylength, 1) := by decide +kernel
theorem dX7_init_32 : decode cX7_init 32 = .ok (.if_icmp .ge 22, 3) := by decide +kernel
theorem dX7_init_35 : decode cX7_init 35 = .ok (.aload_n 0, 1) := by decide +kernel
theorem dX7_init_36 : decode cX7_init 36 = .ok (.getfield 16, 3) := by decide +kernel
theorem dX7_init_39 : decode cX7_init 39 = .ok (.iload_n 1, 1) := by decide +kernel
theorem dX7_init_40 : decode cX7_init 40 = .ok (.new 7, 3) := by decide +kernel
theorem dX7_init_43 : decode cX7_init 43 = .ok (.dup, 1) := by decide +kernel
theorem dX7_init_44 : decode cX7_init 44 = .ok (.invokespecial 9, 3) := by decide +kernel
theorem dX7_init_47 : decode cX7_init 47 = .ok (.aastore, 1) := by decide +kernel
theorem dX7_init_48 : decode cX7_init 48 = .ok (.iinc 1 1, 3) := by decide +kernel
theorem dX7_init_51 : decode cX7_init 51 = .ok (.goto (-25), 3) := by decide +kernel
theorem dX7_init_54 : decode cX7_init 54 = .ok (.aload_n 0, 1) := by decide +kernel
theorem dX7_init_55 : decode cX7_init 55 = .ok (.new 20, 3) := by decide +kernel
theorem dX7_init_58 : decode cX7_init 58 = .ok (.dup, 1) := by decide +kernel
theorem dX7_init_59 : decode cX7_init 59 = .ok (.invokespecial 22, 3) := by decide +kernel
theorem dX7_init_62 : decode cX7_init 62 = .ok (.putfield 23, 3) := by decide +kernel
theorem dX7_init_65 : decode cX7_init 65 = .ok (.aload_n 0, 1) := by decide +kernel
theorem dX7_init_66 : decode cX7_init 66 = .ok (.new 27, 3) := by decide +kernel
theorem dX7_init_69 : decode cX7_init 69 = .ok (.dup, 1) := by decide +kernel
theorem dX7_init_70 : decode cX7_init 70 = .ok (.invokespecial 29, 3) := by decide +kernel
theorem dX7_init_73 : decode cX7_init 73 = .ok (.putfield 30, 3) := by decide +kernel
theorem dX7_init_76 : decode cX7_init 76 = .ok (.aload_n 0, 1) := by decide +kernel
theorem dX7_init_77 : decode cX7_init 77 = .ok (.new 34, 3) := by decide +kernel
theorem dX7_init_80 : decode cX7_init 80 = .ok (.dup, 1) := by decide +kernel
theorem dX7_init_81 : decode cX7_init 81 = .ok (.invokespecial 36, 3) := by decide +kernel
theorem dX7_init_84 : decode cX7_init 84 = .ok (.putfield 37, 3) := by decide +kernel
theorem dX7_init_87 : decode cX7_init 87 = .ok (.aload_n 0, 1) := by decide +kernel
theorem dX7_init_88 : decode cX7_init 88 = .ok (.new 7, 3) := by decide +kernel
theorem dX7_init_91 : decode cX7_init 91 = .ok (.dup, 1) := by decide +kernel
theorem dX7_init_92 : decode cX7_init 92 = .ok (.invokespecial 9, 3) := by decide +kernel
theorem dX7_init_95 : decode cX7_init 95 = .ok (.putfield 41, 3) := by decide +kernel
theorem dX7_init_98 : decode cX7_init 98 = .ok (.aload_n 0, 1) := by decide +kernel
theorem dX7_init_99 : decode cX7_init 99 = .ok (.new 34, 3) := by decide +kernel
theorem dX7_init_102 : decode cX7_init 102 = .ok (.dup, 1) := by decide +kernel
theorem dX7_init_103 : decode cX7_init 103 = .ok (.invokespecial 36, 3) := by decide +kernel
theorem dX7_init_106 : decode cX7_init 106 = .ok (.putfield 44, 3) := by decide +kernel
theorem dX7_init_109 : decode cX7_init 109 = .ok (.return_, 1) := by decide +kernel
theorem dX7_tell_0 : decode cX7_tell 0 = .ok (.iload_n 1, 1) := by decide +kernel
theorem dX7_tell_1 : decode cX7_tell 1 = .ok (.iload_n 2, 1) := by decide +kernel
theorem dX7_tell_2 : decode cX7_tell 2 = .ok (.iload_n 3, 1) := by decide +kernel
theorem dX7_tell_3 : decode cX7_tell 3 = .ok (.invokestatic 47, 3) := by decide +kernel
theorem dX7_tell_6 : decode cX7_tell 6 = .ok (.ifCond .ne 13, 3) := by decide +kernel
theorem dX7_tell_9 : decode cX7_tell 9 = .ok (.new 53, 3) := by decide +kernel
theorem dX7_tell_12 : decode cX7_tell 12 = .ok (.dup, 1) := by decide +kernel
theorem dX7_tell_13 : decode cX7_tell 13 = .ok (.ldc 55, 2) := by decide +kernel
theorem dX7_tell_15 : decode cX7_tell 15 = .ok (.invokespecial 57, 3) := by decide +kernel
theorem dX7_tell_18 : decode cX7_tell 18 = .ok (.athrow, 1) := by decide +kernel
theorem dX7_tell_19 : decode cX7_tell 19 = .ok (.iload_n 1, 1) := by decide +kernel
theorem dX7_tell_20 : decode cX7_tell 20 = .ok (.iload_n 2, 1) := by decide +kernel
theorem dX7_tell_21 : decode cX7_tell 21 = .ok (.iload_n 3, 1) := by decide +kernel
theorem dX7_tell_22 : decode cX7_tell 22 = .ok (.invokestatic 60, 3) := by decide +kernel
theorem dX7_tell_25 : decode cX7_tell 25 = .ok (.istore 4, 2) := by decide +kernel
theorem dX7_tell_27 : decode cX7_tell 27 = .ok (.aload_n 0, 1) := by decide +kernel
theorem dX7_tell_28 : decode cX7_tell 28 = .ok (.getfield 10, 3) := by decide +kernel
theorem dX7_tell_31 : decode cX7_tell 31 = .ok (.getfield 64, 3) := by decide +kernel
theorem dX7_tell_34 : decode cX7_tell 34 = .ok (.iload 4, 2) := by decide +kernel
theorem dX7_tell_36 : decode cX7_tell 36 = .ok (.invokevirtual 68, 3) := by decide +kernel
theorem dX7_tell_39 : decode cX7_tell 39 = .ok (.ifCond .ne 28, 3) := by decide +kernel
theorem dX7_tell_42 : decode cX7_tell 42 = .ok (.aload_n 0, 1) := by decide +kernel
theorem dX7_tell_43 : decode cX7_tell 43 = .ok (.getfield 10, 3) := by decide +kernel
theorem dX7_tell_46 : decode cX7_tell 46 = .ok (.getfield 64, 3) := by decide +kernel
theorem dX7_tell_49 : decode cX7_tell 49 = .ok (.invokevirtual 74, 3) := by decide +kernel
theorem dX7_tell_52 : decode cX7_tell 52 = .ok (.bipush 12, 2) := by decide +kernel
theorem dX7_tell_54 : decode cX7_tell 54 = .ok (.if_icmp .lt 13, 3) := by decide +kernel
theorem dX7_tell_57 : decode cX7_tell 57 = .ok (.new 78, 3) := by decide +kernel
theorem dX7_tell_60 : decode cX7_tell 60 = .ok (.dup, 1) := by decide +kernel
theorem dX7_tell_61 : decode cX7_tell 61 = .ok (.ldc 80, 2) := by decide +kernel
theorem dX7_tell_63 : decode cX7_tell 63 = .ok (.invokespecial 82, 3) := by decide +kernel
theorem dX7_tell_66 : decode cX7_tell 66 = .ok (.athrow, 1) := by decide +kernel
theorem dX7_tell_67 : decode cX7_tell 67 = .ok (.aload_n 0, 1) := by decide +kernel
theorem dX7_tell_68 : decode cX7_tell 68 = .ok (.invokevirtual 83, 3) := by decide +kernel
theorem dX7_tell_71 : decode cX7_tell 71 = .ok (.aload_n 0, 1) := by decide +kernel
theorem dX7_tell_72 : decode cX7_tell 72 = .ok (.getfield 10, 3) := by decide +kernel
theorem dX7_tell_75 : decode cX7_tell 75 = .ok (.getfield 64, 3) := by decide +kernel
theorem dX7_tell_78 : decode cX7_tell 78 = .ok (.iload 4, 2) := by decide +kernel
theorem dX7_tell_80 : decode cX7_tell 80 = .ok (.invokevirtual 86, 3) := by decide +kernel
theorem dX7_tell_83 : decode cX7_tell 83 = .ok (.aload_n 0, 1) := by decide +kernel
theorem dX7_tell_84 : decode cX7_tell 84 = .ok (.getfield 37, 3) := by decide +kernel
theorem dX7_tell_87 : decode cX7_tell 87 = .ok (.aload_n 0, 1) := by decide +kernel
theorem dX7_tell_88 : decode cX7_tell 88 = .ok (.getfield 10, 3) := by decide +kernel
theorem dX7_tell_91 : decode cX7_tell 91 = .ok (.invokevirtual 90, 3) := by decide +kernel
theorem dX7_tell_94 : decode cX7_tell 94 = .ok (.aload_n 0, 1) := by decide +kernel
theorem dX7_tell_95 : decode cX7_tell 95 = .ok (.getfield 10, 3) := by decide +kernel
theorem dX7_tell_98 : decode cX7_tell 98 = .ok (.getfield 64, 3) := by decide +kernel
theorem dX7_tell_101 : decode cX7_tell 101 = .ok (.invokevirtual 74, 3) := by decide +kernel
theorem dX7_tell_104 : decode cX7_tell 104 = .ok (.ireturn, 1) := by decide +kernel
theorem dX7_untell_0 : decode cX7_untell 0 = .ok (.iload_n 1, 1) := by decide +kernel
theorem dX7_untell_1 : decode cX7_untell 1 = .ok (.iload_n 2, 1) := by decide +kernel
theorem dX7_untell_2 : decode cX7_untell 2 = .ok (.iload_n 3, 1) := by decide +kernel
theorem dX7_untell_3 : decode cX7_untell 3 = .ok (.invokestatic 47, 3) := by decide +kernel
theorem dX7_untell_6 : decode cX7_untell 6 = .ok (.ifCond .ne 13, 3) := by decide +kernel
theorem dX7_untell_9 : decode cX7_untell 9 = .ok (.new 53, 3) := by decide +kernel
theorem dX7_untell_12 : decode cX7_untell 12 = .ok (.dup, 1) := by decide +kernel
theorem dX7_untell_13 : decode cX7_untell 13 = .ok (.ldc 55, 2) := by decide +kernel
theorem dX7_untell_15 : decode cX7_untell 15 = .ok (.invokespecial 57, 3) := by decide +kernel
theorem dX7_untell_18 : decode cX7_untell 18 = .ok (.athrow, 1) := by decide +kernel
theorem dX7_untell_19 : decode cX7_untell 19 = .ok (.iload_n 1, 1) := by decide +kernel
theorem dX7_untell_20 : decode cX7_untell 20 = .ok (.iload_n 2, 1) := by decide +kernel
theorem dX7_untell_21 : decode cX7_untell 21 = .ok (.iload_n 3, 1) := by decide +kernel
theorem dX7_untell_22 : decode cX7_untell 22 = .ok (.invokestatic 60, 3) := by decide +kernel
theorem dX7_untell_25 : decode cX7_untell 25 = .ok (.istore 4, 2) := by decide +kernel
theorem dX7_untell_27 : decode cX7_untell 27 = .ok (.aload_n 0, 1) := by decide +kernel
theorem dX7_untell_28 : decode cX7_untell 28 = .ok (.getfield 10, 3) := by decide +kernel
theorem dX7_untell_31 : decode cX7_untell 31 = .ok (.getfield 64, 3) := by decide +kernel
theorem dX7_untell_34 : decode cX7_untell 34 = .ok (.iload 4, 2) := by decide +kernel
theorem dX7_untell_36 : decode cX7_untell 36 = .ok (.invokevirtual 68, 3) := by decide +kernel
theorem dX7_untell_39 : decode cX7_untell 39 = .ok (.istore 5, 2) := by decide +kernel
theorem dX7_untell_41 : decode cX7_untell 41 = .ok (.aload_n 0, 1) := by decide +kernel
theorem dX7_untell_42 : decode cX7_untell 42 = .ok (.invokevirtual 83, 3) := by decide +kernel
theorem dX7_untell_45 : decode cX7_untell 45 = .ok (.aload_n 0, 1) := by decide +kernel
theorem dX7_untell_46 : decode cX7_untell 46 = .ok (.getfield 10, 3) := by decide +kernel
theorem dX7_untell_49 : decode cX7_untell 49 = .ok (.getfield 64, 3) := by decide +kernel
theorem dX7_untell_52 : decode cX7_untell 52 = .ok (.iload 4, 2) := by decide +kernel
theorem dX7_untell_54 : decode cX7_untell 54 = .ok (.invokevirtual 94, 3) := by decide +kernel
theorem dX7_untell_57 : decode cX7_untell 57 = .ok (.aload_n 0, 1) := by decide +kernel
theorem dX7_untell_58 : decode cX7_untell 58 = .ok (.getfield 37, 3) := by decide +kernel
theorem dX7_untell_61 : decode cX7_untell 61 = .ok (.aload_n 0, 1) := by decide +kernel
theorem dX7_untell_62 : decode cX7_untell 62 = .ok (.getfield 10, 3) := by decide +kernel
theorem dX7_untell_65 : decode cX7_untell 65 = .ok (.invokevirtual 90, 3) := by decide +kernel
theorem dX7_untell_68 : decode cX7_untell 68 = .ok (.iload 5, 2) := by decide +kernel
theorem dX7_untell_70 : decode cX7_untell 70 = .ok (.ifCond .eq 7, 3) := by decide +kernel
theorem dX7_untell_73 : decode cX7_untell 73 = .ok (.iconst 1, 1) := by decide +kernel
theorem dX7_untell_74 : decode cX7_untell 74 = .ok (.goto 4, 3) := by decide +kernel
theorem dX7_untell_77 : decode cX7_untell 77 = .ok (.iconst 0, 1) := by decide +kernel
theorem dX7_untell_78 : decode cX7_untell 78 = .ok (.ireturn, 1) := by decide +kernel
theorem dX7_rule_0 : decode cX7_rule 0 = .ok (.iload_n 1, 1) := by decide +kernel
theorem dX7_rule_1 : decode cX7_rule 1 = .ok (.invokestatic 97, 3) := by decide +kernel
theorem dX7_rule_4 : decode cX7_rule 4 = .ok (.ifCond .eq 10, 3) := by decide +kernel
theorem dX7_rule_7 : decode cX7_rule 7 = .ok (.iload_n 2, 1) := by decide +kernel
theorem dX7_rule_8 : decode cX7_rule 8 = .ok (.invokestatic 97, 3) := by decide +kernel
theorem dX7_rule_11 : decode cX7_rule 11 = .ok (.ifCond .ne 13, 3) := by decide +kernel
theorem dX7_rule_14 : decode cX7_rule 14 = .ok (.new 53, 3) := by decide +kernel
theorem dX7_rule_17 : decode cX7_rule 17 = .ok (.dup, 1) := by decide +kernel
theorem dX7_rule_18 : decode cX7_rule 18 = .ok (.ldc 100, 2) := by decide +kernel
theorem dX7_rule_20 : decode cX7_rule 20 = .ok (.invokespecial 57, 3) := by decide +kernel
theorem dX7_rule_23 : decode cX7_rule 23 = .ok (.athrow, 1) := by decide +kernel
theorem dX7_rule_24 : decode cX7_rule 24 = .ok (.aload_n 0, 1) := by decide +kernel
theorem dX7_rule_25 : decode cX7_rule 25 = .ok (.getfield 10, 3) := by decide +kernel
theorem dX7_rule_28 : decode cX7_rule 28 = .ok (.invokevirtual 102, 3) := by decide +kernel
theorem dX7_rule_31 : decode cX7_rule 31 = .ok (.bipush 6, 2) := by decide +kernel
theorem dX7_rule_33 : decode cX7_rule 33 = .ok (.if_icmp .lt 13, 3) := by decide +kernel
theorem dX7_rule_36 : decode cX7_rule 36 = .ok (.new 78, 3) := by decide +kernel
theorem dX7_rule_39 : decode cX7_rule 39 = .ok (.dup, 1) := by decide +kernel
theorem dX7_rule_40 : decode cX7_rule 40 = .ok (.ldc 105, 2) := by decide +kernel
theorem dX7_rule_42 : decode cX7_rule 42 = .ok (.invokespecial 82, 3) := by decide +kernel
theorem dX7_rule_45 : decode cX7_rule 45 = .ok (.athrow, 1) := by decide +kernel
theorem dX7_rule_46 : decode cX7_rule 46 = .ok (.aload_n 0, 1) := by decide +kernel
theorem dX7_rule_47 : decode cX7_rule 47 = .ok (.iload_n 1, 1) := by decide +kernel
theorem dX7_rule_48 : decode cX7_rule 48 = .ok (.iload_n 2, 1) := by decide +kernel
theorem dX7_rule_49 : decode cX7_rule 49 = .ok (.iconst (-1), 1) := by decide +kernel
theorem dX7_rule_50 : decode cX7_rule 50 = .ok (.invokevirtual 107, 3) := by decide +kernel
theorem dX7_rule_53 : decode cX7_rule 53 = .ok (.ireturn, 1) := by decide +kernel
theorem dX7_joining_0 : decode cX7_joining 0 = .ok (.iload_n 1, 1) := by decide +kernel
theorem dX7_joining_1 : decode cX7_joining 1 = .ok (.invokestatic 97, 3) := by decide +kernel
theorem dX7_joining_4 : decode cX7_joining 4 = .ok (.ifCond .eq 17, 3) := by decide +kernel
theorem dX7_joining_7 : decode cX7_joining 7 = .ok (.iload_n 2, 1) := by decide +kernel
theorem dX7_joining_8 : decode cX7_joining 8 = .ok (.invokestatic 97, 3) := by decide +kernel
theorem dX7_joining_11 : decode cX7_joining 11 = .ok (.ifCond .eq 10, 3) := by decide +kernel
theorem dX7_joining_14 : decode cX7_joining 14 = .ok (.iload_n 3, 1) := by decide +kernel
theorem dX7_joining_15 : decode cX7_joining 15 = .ok (.invokestatic 97, 3) := by decide +kernel
theorem dX7_joining_18 : decode cX7_joining 18 = .ok (.ifCond .ne 13, 3) := by decide +kernel
theorem dX7_joining_21 : decode cX7_joining 21 = .ok (.new 53, 3) := by decide +kernel
theorem dX7_joining_24 : decode cX7_joining 24 = .ok (.dup, 1) := by decide +kernel
theorem dX7_joining_25 : decode cX7_joining 25 = .ok (.ldc 100, 2) := by decide +kernel
theorem dX7_joining_27 : decode cX7_joining 27 = .ok (.invokespecial 57, 3) := by decide +kernel
theorem dX7_joining_30 : decode cX7_joining 30 = .ok (.athrow, 1) := by decide +kernel
theorem dX7_joining_31 : decode cX7_joining 31 = .ok (.aload_n 0, 1) := by decide +kernel
theorem dX7_joining_32 : decode cX7_joining 32 = .ok (.getfield 10, 3) := by decide +kernel
theorem dX7_joining_35 : decode cX7_joining 35 = .ok (.invokevirtual 102, 3) := by decide +kernel
theorem dX7_joining_38 : decode cX7_joining 38 = .ok (.bipush 6, 2) := by decide +kernel
theorem dX7_joining_40 : decode cX7_joining 40 = .ok (.if_icmp .lt 13, 3) := by decide +kernel
theorem dX7_joining_43 : decode cX7_joining 43 = .ok (.new 78, 3) := by decide +kernel
theorem dX7_joining_46 : decode cX7_joining 46 = .ok (.dup, 1) := by decide +kernel
theorem dX7_joining_47 : decode cX7_joining 47 = .ok (.ldc 105, 2) := by decide +kernel
theorem dX7_joining_49 : decode cX7_joining 49 = .ok (.invokespecial 82, 3) := by decide +kernel
theorem dX7_joining_52 : decode cX7_joining 52 = .ok (.athrow, 1) := by decide +kernel
theorem dX7_joining_53 : decode cX7_joining 53 = .ok (.aload_n 0, 1) := by decide +kernel
theorem dX7_joining_54 : decode cX7_joining 54 = .ok (.iload_n 1, 1) := by decide +kernel
theorem dX7_joining_55 : decode cX7_joining 55 = .ok (.iload_n 2, 1) := by decide +kernel
theorem dX7_joining_56 : decode cX7_joining 56 = .ok (.iload_n 3, 1) := by decide +kernel
theorem dX7_joining_57 : decode cX7_joining 57 = .ok (.invokevirtual 107, 3) := by decide +kernel
theorem dX7_joining_60 : decode cX7_joining 60 = .ok (.ireturn, 1) := by decide +kernel
theorem dX7_remove_0 : decode cX7_remove 0 = .ok (.aload_n 0, 1) := by decide +kernel
theorem dX7_remove_1 : decode cX7_remove 1 = .ok (.getfield 10, 3) := by decide +kernel
theorem dX7_remove_4 : decode cX7_remove 4 = .ok (.iload_n 1, 1) := by decide +kernel
theorem dX7_remove_5 : decode cX7_remove 5 = .ok (.invokevirtual 110, 3) := by decide +kernel
theorem dX7_remove_8 : decode cX7_remove 8 = .ok (.ifCond .ne 13, 3) := by decide +kernel
theorem dX7_remove_11 : decode cX7_remove 11 = .ok (.new 113, 3) := by decide +kernel
theorem dX7_remove_14 : decode cX7_remove 14 = .ok (.dup, 1) := by decide +kernel
theorem dX7_remove_15 : decode cX7_remove 15 = .ok (.ldc 115, 2) := by decide +kernel
theorem dX7_remove_17 : decode cX7_remove 17 = .ok (.invokespecial 117, 3) := by decide +kernel
theorem dX7_remove_20 : decode cX7_remove 20 = .ok (.athrow, 1) := by decide +kernel
theorem dX7_remove_21 : decode cX7_remove 21 = .ok (.aload_n 0, 1) := by decide +kernel
theorem dX7_remove_22 : decode cX7_remove 22 = .ok (.invokevirtual 83, 3) := by decide +kernel
theorem dX7_remove_25 : decode cX7_remove 25 = .ok (.aload_n 0, 1) := by decide +kernel
theorem dX7_remove_26 : decode cX7_remove 26 = .ok (.getfield 10, 3) := by decide +kernel
theorem dX7_remove_29 : decode cX7_remove 29 = .ok (.iload_n 1, 1) := by decide +kernel
theorem dX7_remove_30 : decode cX7_remove 30 = .ok (.invokevirtual 118, 3) := by decide +kernel
theorem dX7_remove_33 : decode cX7_remove 33 = .ok (.aload_n 0, 1) := by decide +kernel
theorem dX7_remove_34 : decode cX7_remove 34 = .ok (.getfield 37, 3) := by decide +kernel
theorem dX7_remove_37 : decode cX7_remove 37 = .ok (.aload_n 0, 1) := by decide +kernel
theorem dX7_remove_38 : decode cX7_remove 38 = .ok (.getfield 10, 3) := by decide +kernel
theorem dX7_remove_41 : decode cX7_remove 41 = .ok (.invokevirtual 90, 3) := by decide +kernel
theorem dX7_remove_44 : decode cX7_remove 44 = .ok (.aload_n 0, 1) := by decide +kernel
theorem dX7_remove_45 : decode cX7_remove 45 = .ok (.getfield 10, 3) := by decide +kernel
theorem dX7_remove_48 : decode cX7_remove 48 = .ok (.invokevirtual 102, 3) := by decide +kernel
theorem dX7_remove_51 : decode cX7_remove 51 = .ok (.ireturn, 1) := by decide +kernel
theorem dX7_settle_0 : decode cX7_settle 0 = .ok (.aload_n 0, 1) := by decide +kernel
theorem dX7_settle_1 : decode cX7_settle 1 = .ok (.getfield 37, 3) := by decide +kernel
theorem dX7_settle_4 : decode cX7_settle 4 = .ok (.getfield 121, 3) := by decide +kernel
theorem dX7_settle_7 : decode cX7_settle 7 = .ok (.invokevirtual 74, 3) := by decide +kernel
theorem dX7_settle_10 : decode cX7_settle 10 = .ok (.bipush 12, 2) := by decide +kernel
theorem dX7_settle_12 : decode cX7_settle 12 = .ok (.if_icmp .le 13, 3) := by decide +kernel
theorem dX7_settle_15 : decode cX7_settle 15 = .ok (.new 78, 3) := by decide +kernel
theorem dX7_settle_18 : decode cX7_settle 18 = .ok (.dup, 1) := by decide +kernel
theorem dX7_settle_19 : decode cX7_settle 19 = .ok (.ldc 124, 2) := by decide +kernel
theorem dX7_settle_21 : decode cX7_settle 21 = .ok (.invokespecial 82, 3) := by decide +kernel
theorem dX7_settle_24 : decode cX7_settle 24 = .ok (.athrow, 1) := by decide +kernel
theorem dX7_settle_25 : decode cX7_settle 25 = .ok (.aload_n 0, 1) := by decide +kernel
theorem dX7_settle_26 : decode cX7_settle 26 = .ok (.invokevirtual 83, 3) := by decide +kernel
theorem dX7_settle_29 : decode cX7_settle 29 = .ok (.aload_n 0, 1) := by decide +kernel
theorem dX7_settle_30 : decode cX7_settle 30 = .ok (.getfield 10, 3) := by decide +kernel
theorem dX7_settle_33 : decode cX7_settle 33 = .ok (.getfield 64, 3) := by decide +kernel
theorem dX7_settle_36 : decode cX7_settle 36 = .ok (.aload_n 0, 1) := by decide +kernel
theorem dX7_settle_37 : decode cX7_settle 37 = .ok (.getfield 37, 3) := by decide +kernel
theorem dX7_settle_40 : decode cX7_settle 40 = .ok (.getfield 121, 3) := by decide +kernel
theorem dX7_settle_43 : decode cX7_settle 43 = .ok (.invokevirtual 126, 3) := by decide +kernel
theorem dX7_settle_46 : decode cX7_settle 46 = .ok (.aload_n 0, 1) := by decide +kernel
theorem dX7_settle_47 : decode cX7_settle 47 = .ok (.getfield 37, 3) := by decide +kernel
theorem dX7_settle_50 : decode cX7_settle 50 = .ok (.aload_n 0, 1) := by decide +kernel
theorem dX7_settle_51 : decode cX7_settle 51 = .ok (.getfield 10, 3) := by decide +kernel
theorem dX7_settle_54 : decode cX7_settle 54 = .ok (.invokevirtual 90, 3) := by decide +kernel
theorem dX7_settle_57 : decode cX7_settle 57 = .ok (.aload_n 0, 1) := by decide +kernel
theorem dX7_settle_58 : decode cX7_settle 58 = .ok (.getfield 10, 3) := by decide +kernel
theorem dX7_settle_61 : decode cX7_settle 61 = .ok (.getfield 64, 3) := by decide +kernel
theorem dX7_settle_64 : decode cX7_settle 64 = .ok (.invokevirtual 74, 3) := by decide +kernel
theorem dX7_settle_67 : decode cX7_settle 67 = .ok (.ireturn, 1) := by decide +kernel
theorem dX7_undo_0 : decode cX7_undo 0 = .ok (.aload_n 0, 1) := by decide +kernel
theorem dX7_undo_1 : decode cX7_undo 1 = .ok (.getfield 157, 3) := by decide +kernel
theorem dX7_undo_4 : decode cX7_undo 4 = .ok (.ifCond .le 15, 3) := by decide +kernel
theorem dX7_undo_7 : decode cX7_undo 7 = .ok (.aload_n 0, 1) := by decide +kernel
theorem dX7_undo_8 : decode cX7_undo 8 = .ok (.getfield 157, 3) := by decide +kernel
theorem dX7_undo_11 : decode cX7_undo 11 = .ok (.aload_n 0, 1) := by decide +kernel
theorem dX7_undo_12 : decode cX7_undo 12 = .ok (.getfield 16, 3) := by decide +kernel
theorem dX7_undo_15 : decode cX7_undo 15 = .ok (.arraylength, 1) := by decide +kernel
theorem dX7_undo_16 : decode cX7_undo 16 = .ok (.if_icmp .le 13, 3) := by decide +kernel
theorem dX7_undo_19 : decode cX7_undo 19 = .ok (.new 78, 3) := by decide +kernel
theorem dX7_undo_22 : decode cX7_undo 22 = .ok (.dup, 1) := by decide +kernel
theorem dX7_undo_23 : decode cX7_undo 23 = .ok (.ldc 161, 2) := by decide +kernel
theorem dX7_undo_25 : decode cX7_undo 25 = .ok (.invokespecial 82, 3) := by decide +kernel
theorem dX7_undo_28 : decode cX7_undo 28 = .ok (.athrow, 1) := by decide +kernel
theorem dX7_undo_29 : decode cX7_undo 29 = .ok (.aload_n 0, 1) := by decide +kernel
theorem dX7_undo_30 : decode cX7_undo 30 = .ok (.dup, 1) := by decide +kernel
theorem dX7_undo_31 : decode cX7_undo 31 = .ok (.getfield 157, 3) := by decide +kernel
theorem dX7_undo_34 : decode cX7_undo 34 = .ok (.iconst 1, 1) := by decide +kernel
theorem dX7_undo_35 : decode cX7_undo 35 = .ok (.isub, 1) := by decide +kernel
theorem dX7_undo_36 : decode cX7_undo 36 = .ok (.putfield 157, 3) := by decide +kernel
theorem dX7_undo_39 : decode cX7_undo 39 = .ok (.aload_n 0, 1) := by decide +kernel
theorem dX7_undo_40 : decode cX7_undo 40 = .ok (.getfield 10, 3) := by decide +kernel
theorem dX7_undo_43 : decode cX7_undo 43 = .ok (.aload_n 0, 1) := by decide +kernel
theorem dX7_undo_44 : decode cX7_undo 44 = .ok (.getfield 16, 3) := by decide +kernel
theorem dX7_undo_47 : decode cX7_undo 47 = .ok (.aload_n 0, 1) := by decide +kernel
theorem dX7_undo_48 : decode cX7_undo 48 = .ok (.getfield 157, 3) := by decide +kernel
theorem dX7_undo_51 : decode cX7_undo 51 = .ok (.aaload, 1) := by decide +kernel
theorem dX7_undo_52 : decode cX7_undo 52 = .ok (.invokevirtual 149, 3) := by decide +kernel
theorem dX7_undo_55 : decode cX7_undo 55 = .ok (.aload_n 0, 1) := by decide +kernel
theorem dX7_undo_56 : decode cX7_undo 56 = .ok (.getfield 37, 3) := by decide +kernel
theorem dX7_undo_59 : decode cX7_undo 59 = .ok (.aload_n 0, 1) := by decide +kernel
theorem dX7_undo_60 : decode cX7_undo 60 = .ok (.getfield 10, 3) := by decide +kernel
theorem dX7_undo_63 : decode cX7_undo 63 = .ok (.invokevirtual 90, 3) := by decide +kernel
theorem dX7_undo_66 : decode cX7_undo 66 = .ok (.aload_n 0, 1) := by decide +kernel
theorem dX7_undo_67 : decode cX7_undo 67 = .ok (.getfield 157, 3) := by decide +kernel
theorem dX7_undo_70 : decode cX7_undo 70 = .ok (.ireturn, 1) := by decide +kernel
theorem dX7_told_0 : decode cX7_told 0 = .ok (.iload_n 1, 1) := by decide +kernel
theorem dX7_told_1 : decode cX7_told 1 = .ok (.ifCond .ge 13, 3) := by decide +kernel
theorem dX7_told_4 : decode cX7_told 4 = .ok (.new 53, 3) := by decide +kernel
theorem dX7_told_7 : decode cX7_told 7 = .ok (.dup, 1) := by decide +kernel
theorem dX7_told_8 : decode cX7_told 8 = .ok (.ldc 163, 2) := by decide +kernel
theorem dX7_told_10 : decode cX7_told 10 = .ok (.invokespecial 57, 3) := by decide +kernel
theorem dX7_told_13 : decode cX7_told 13 = .ok (.athrow, 1) := by decide +kernel
theorem dX7_told_14 : decode cX7_told 14 = .ok (.aload_n 0, 1) := by decide +kernel
theorem dX7_told_15 : decode cX7_told 15 = .ok (.getfield 10, 3) := by decide +kernel
theorem dX7_told_18 : decode cX7_told 18 = .ok (.getfield 64, 3) := by decide +kernel
theorem dX7_told_21 : decode cX7_told 21 = .ok (.iload_n 1, 1) := by decide +kernel
theorem dX7_told_22 : decode cX7_told 22 = .ok (.invokevirtual 165, 3) := by decide +kernel
theorem dX7_told_25 : decode cX7_told 25 = .ok (.ireturn, 1) := by decide +kernel
theorem dX7_partOf_0 : decode cX7_partOf 0 = .ok (.aload_n 0, 1) := by decide +kernel
theorem dX7_partOf_1 : decode cX7_partOf 1 = .ok (.getfield 10, 3) := by decide +kernel
theorem dX7_partOf_4 : decode cX7_partOf 4 = .ok (.iload_n 1, 1) := by decide +kernel
theorem dX7_partOf_5 : decode cX7_partOf 5 = .ok (.invokevirtual 110, 3) := by decide +kernel
theorem dX7_partOf_8 : decode cX7_partOf 8 = .ok (.ifCond .ne 13, 3) := by decide +kernel
theorem dX7_partOf_11 : decode cX7_partOf 11 = .ok (.new 113, 3) := by decide +kernel
theorem dX7_partOf_14 : decode cX7_partOf 14 = .ok (.dup, 1) := by decide +kernel
theorem dX7_partOf_15 : decode cX7_partOf 15 = .ok (.ldc 115, 2) := by decide +kernel
theorem dX7_partOf_17 : decode cX7_partOf 17 = .ok (.invokespecial 117, 3) := by decide +kernel
theorem dX7_partOf_20 : decode cX7_partOf 20 = .ok (.athrow, 1) := by decide +kernel
theorem dX7_partOf_21 : decode cX7_partOf 21 = .ok (.iload_n 2, 1) := by decide +kernel
theorem dX7_partOf_22 : decode cX7_partOf 22 = .ok (.ifCond .lt 8, 3) := by decide +kernel
theorem dX7_partOf_25 : decode cX7_partOf 25 = .ok (.iload_n 2, 1) := by decide +kernel
theorem dX7_partOf_26 : decode cX7_partOf 26 = .ok (.iconst 2, 1) := by decide +kernel
theorem dX7_partOf_27 : decode cX7_partOf 27 = .ok (.if_icmp .le 13, 3) := by decide +kernel
theorem dX7_partOf_30 : decode cX7_partOf 30 = .ok (.new 53, 3) := by decide +kernel
theorem dX7_partOf_33 : decode cX7_partOf 33 = .ok (.dup, 1) := by decide +kernel
theorem dX7_partOf_34 : decode cX7_partOf 34 = .ok (.ldc 169, 2) := by decide +kernel
theorem dX7_partOf_36 : decode cX7_partOf 36 = .ok (.invokespecial 57, 3) := by decide +kernel
theorem dX7_partOf_39 : decode cX7_partOf 39 = .ok (.athrow, 1) := by decide +kernel
theorem dX7_partOf_40 : decode cX7_partOf 40 = .ok (.aload_n 0, 1) := by decide +kernel
theorem dX7_partOf_41 : decode cX7_partOf 41 = .ok (.getfield 10, 3) := by decide +kernel
theorem dX7_partOf_44 : decode cX7_partOf 44 = .ok (.iload_n 1, 1) := by decide +kernel
theorem dX7_partOf_45 : decode cX7_partOf 45 = .ok (.iload_n 2, 1) := by decide +kernel
theorem dX7_partOf_46 : decode cX7_partOf 46 = .ok (.invokevirtual 171, 3) := by decide +kernel
theorem dX7_partOf_49 : decode cX7_partOf 49 = .ok (.ireturn, 1) := by decide +kernel
theorem dX7_found_0 : decode cX7_found 0 = .ok (.iload_n 1, 1) := by decide +kernel
theorem dX7_found_1 : decode cX7_found 1 = .ok (.ifCond .lt 12, 3) := by decide +kernel
theorem dX7_found_4 : decode cX7_found 4 = .ok (.iload_n 2, 1) := by decide +kernel
