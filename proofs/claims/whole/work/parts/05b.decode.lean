theorem dX7_init_77 : decode cX7_init 77 = .ok (.new 34, 3) := by decide +kernel
theorem dX7_init_80 : decode cX7_init 80 = .ok (.dup, 1) := by decide +kernel
theorem dX7_init_81 : decode cX7_init 81 = .ok (.invokespecial 36, 3) := by decide +kernel
theorem dX7_init_84 : decode cX7_init 84 = .ok (.putfield 37, 3) := by decide +kernel
theorem dX7_init_87 : decode cX7_init 87 = .ok (.aload_n 0, 1) := by decide +kernel
theorem dX7_init_88 : decode cX7_init 88 = .ok (.new 7, 3) := by decide +kernel
theorem dX7_init_91 : decode cX7_init 91 = .ok (.dup, 1) := by decide +kernel
theorem dX7_init_92 : decode cX7_init 92 = .ok (.invokespecial 9, 3) := by decide +kernel
theorem dX7_init_95 : decode cX7_init 95 = .ok (.putfield 41, 3) := by decide +kernel
theorem dX7_init_98 : decode cX7_init 98 = .ok (.aload_n 0, 1) := by decide +kernel
theorem dX7_init_99 : decode cX7_init 99 = .ok (.new 34, 3) := by decide +kernel
theorem dX7_init_102 : decode cX7_init 102 = .ok (.dup, 1) := by decide +kernel
theorem dX7_init_103 : decode cX7_init 103 = .ok (.invokespecial 36, 3) := by decide +kernel
theorem dX7_init_106 : decode cX7_init 106 = .ok (.putfield 44, 3) := by decide +kernel
theorem dX7_init_109 : decode cX7_init 109 = .ok (.return_, 1) := by decide +kernel
theorem dX7_tell_0 : decode cX7_tell 0 = .ok (.iload_n 1, 1) := by decide +kernel
theorem dX7_tell_1 : decode cX7_tell 1 = .ok (.iload_n 2, 1) := by decide +kernel
theorem dX7_tell_2 : decode cX7_tell 2 = .ok (.iload_n 3, 1) := by decide +kernel
theorem dX7_tell_3 : decode cX7_tell 3 = .ok (.invokestatic 47, 3) := by decide +kernel
theorem dX7_tell_6 : decode cX7_tell 6 = .ok (.ifCond .ne 13, 3) := by decide +kernel
theorem dX7_tell_9 : decode cX7_tell 9 = .ok (.new 53, 3) := by decide +kernel
theorem dX7_tell_12 : decode cX7_tell 12 = .ok (.dup, 1) := by decide +kernel
theorem dX7_tell_13 : decode cX7_tell 13 = .ok (.ldc 55, 2) := by decide +kernel
theorem dX7_tell_15 : decode cX7_tell 15 = .ok (.invokespecial 57, 3) := by decide +kernel
theorem dX7_tell_18 : decode cX7_tell 18 = .ok (.athrow, 1) := by decide +kernel
theorem dX7_tell_19 : decode cX7_tell 19 = .ok (.iload_n 1, 1) := by decide +kernel
theorem dX7_tell_20 : decode cX7_tell 20 = .ok (.iload_n 2, 1) := by decide +kernel
theorem dX7_tell_21 : decode cX7_tell 21 = .ok (.iload_n 3, 1) := by decide +kernel
theorem dX7_tell_22 : decode cX7_tell 22 = .ok (.invokestatic 60, 3) := by decide +kernel
theorem dX7_tell_25 : decode cX7_tell 25 = .ok (.istore 4, 2) := by decide +kernel
theorem dX7_tell_27 : decode cX7_tell 27 = .ok (.aload_n 0, 1) := by decide +kernel
theorem dX7_tell_28 : decode cX7_tell 28 = .ok (.getfield 10, 3) := by decide +kernel
theorem dX7_tell_31 : decode cX7_tell 31 = .ok (.getfield 64, 3) := by decide +kernel
theorem dX7_tell_34 : decode cX7_tell 34 = .ok (.iload 4, 2) := by decide +kernel
theorem dX7_tell_36 : decode cX7_tell 36 = .ok (.invokevirtual 68, 3) := by decide +kernel
theorem dX7_tell_39 : decode cX7_tell 39 = .ok (.ifCond .ne 28, 3) := by decide +kernel
theorem dX7_tell_42 : decode cX7_tell 42 = .ok (.aload_n 0, 1) := by decide +kernel
theorem dX7_tell_43 : decode cX7_tell 43 = .ok (.getfield 10, 3) := by decide +kernel
theorem dX7_tell_46 : decode cX7_tell 46 = .ok (.getfield 64, 3) := by decide +kernel
theorem dX7_tell_49 : decode cX7_tell 49 = .ok (.invokevirtual 74, 3) := by decide +kernel
theorem dX7_tell_52 : decode cX7_tell 52 = .ok (.bipush 12, 2) := by decide +kernel
theorem dX7_tell_54 : decode cX7_tell 54 = .ok (.if_icmp .lt 13, 3) := by decide +kernel
theorem dX7_tell_57 : decode cX7_tell 57 = .ok (.new 78, 3) := by decide +kernel
theorem dX7_tell_60 : decode cX7_tell 60 = .ok (.dup, 1) := by decide +kernel
theorem dX7_tell_61 : decode cX7_tell 61 = .ok (.ldc 80, 2) := by decide +kernel
theorem dX7_tell_63 : decode cX7_tell 63 = .ok (.invokespecial 82, 3) := by decide +kernel
theorem dX7_tell_66 : decode cX7_tell 66 = .ok (.athrow, 1) := by decide +kernel
theorem dX7_tell_67 : decode cX7_tell 67 = .ok (.aload_n 0, 1) := by decide +kernel
theorem dX7_tell_68 : decode cX7_tell 68 = .ok (.invokevirtual 83, 3) := by decide +kernel
theorem dX7_tell_71 : decode cX7_tell 71 = .ok (.aload_n 0, 1) := by decide +kernel
theorem dX7_tell_72 : decode cX7_tell 72 = .ok (.getfield 10, 3) := by decide +kernel
theorem dX7_tell_75 : decode cX7_tell 75 = .ok (.getfield 64, 3) := by decide +kernel
theorem dX7_tell_78 : decode cX7_tell 78 = .ok (.iload 4, 2) := by decide +kernel
theorem dX7_tell_80 : decode cX7_tell 80 = .ok (.invokevirtual 86, 3) := by decide +kernel
theorem dX7_tell_83 : decode cX7_tell 83 = .ok (.aload_n 0, 1) := by decide +kernel
theorem dX7_tell_84 : decode cX7_tell 84 = .ok (.getfield 37, 3) := by decide +kernel
theorem dX7_tell_87 : decode cX7_tell 87 = .ok (.aload_n 0, 1) := by decide +kernel
theorem dX7_tell_88 : decode cX7_tell 88 = .ok (.getfield 10, 3) := by decide +kernel
theorem dX7_tell_91 : decode cX7_tell 91 = .ok (.invokevirtual 90, 3) := by decide +kernel
theorem dX7_tell_94 : decode cX7_tell 94 = .ok (.aload_n 0, 1) := by decide +kernel
theorem dX7_tell_95 : decode cX7_tell 95 = .ok (.getfield 10, 3) := by decide +kernel
theorem dX7_tell_98 : decode cX7_tell 98 = .ok (.getfield 64, 3) := by decide +kernel
theorem dX7_tell_101 : decode cX7_tell 101 = .ok (.invokevirtual 74, 3) := by decide +kernel
theorem dX7_tell_104 : decode cX7_tell 104 = .ok (.ireturn, 1) := by decide +kernel
theorem dX7_untell_0 : decode cX7_untell 0 = .ok (.iload_n 1, 1) := by decide +kernel
theorem dX7_untell_1 : decode cX7_untell 1 = .ok (.iload_n 2, 1) := by decide +kernel
theorem dX7_untell_2 : decode cX7_untell 2 = .ok (.iload_n 3, 1) := by decide +kernel
theorem dX7_untell_3 : decode cX7_untell 3 = .ok (.invokestatic 47, 3) := by decide +kernel
theorem dX7_untell_6 : decode cX7_untell 6 = .ok (.ifCond .ne 13, 3) := by decide +kernel
theorem dX7_untell_9 : decode cX7_untell 9 = .ok (.new 53, 3) := by decide +kernel
theorem dX7_untell_12 : decode cX7_untell 12 = .ok (.dup, 1) := by decide +kernel
theorem dX7_untell_13 : decode cX7_untell 13 = .ok (.ldc 55, 2) := by decide +kernel
theorem dX7_untell_15 : decode cX7_untell 15 = .ok (.invokespecial 57, 3) := by decide +kernel
theorem dX7_untell_18 : decode cX7_untell 18 = .ok (.athrow, 1) := by decide +kernel
theorem dX7_untell_19 : decode cX7_untell 19 = .ok (.iload_n 1, 1) := by decide +kernel
theorem dX7_untell_20 : decode cX7_untell 20 = .ok (.iload_n 2, 1) := by decide +kernel
theorem dX7_untell_21 : decode cX7_untell 21 = .ok (.iload_n 3, 1) := by decide +kernel
theorem dX7_untell_22 : decode cX7_untell 22 = .ok (.invokestatic 60, 3) := by decide +kernel
theorem dX7_untell_25 : decode cX7_untell 25 = .ok (.istore 4, 2) := by decide +kernel
theorem dX7_untell_27 : decode cX7_untell 27 = .ok (.aload_n 0, 1) := by decide +kernel
theorem dX7_untell_28 : decode cX7_untell 28 = .ok (.getfield 10, 3) := by decide +kernel
theorem dX7_untell_31 : decode cX7_untell 31 = .ok (.getfield 64, 3) := by decide +kernel
theorem dX7_untell_34 : decode cX7_untell 34 = .ok (.iload 4, 2) := by decide +kernel
theorem dX7_untell_36 : decode cX7_untell 36 = .ok (.invokevirtual 68, 3) := by decide +kernel
theorem dX7_untell_39 : decode cX7_untell 39 = .ok (.istore 5, 2) := by decide +kernel
theorem dX7_untell_41 : decode cX7_untell 41 = .ok (.aload_n 0, 1) := by decide +kernel
theorem dX7_untell_42 : decode cX7_untell 42 = .ok (.invokevirtual 83, 3) := by decide +kernel
theorem dX7_untell_45 : decode cX7_untell 45 = .ok (.aload_n 0, 1) := by decide +kernel
theorem dX7_untell_46 : decode cX7_untell 46 = .ok (.getfield 10, 3) := by decide +kernel
theorem dX7_untell_49 : decode cX7_untell 49 = .ok (.getfield 64, 3) := by decide +kernel
theorem dX7_untell_52 : decode cX7_untell 52 = .ok (.iload 4, 2) := by decide +kernel
theorem dX7_untell_54 : decode cX7_untell 54 = .ok (.invokevirtual 94, 3) := by decide +kernel
theorem dX7_untell_57 : decode cX7_untell 57 = .ok (.aload_n 0, 1) := by decide +kernel
theorem dX7_untell_58 : decode cX7_untell 58 = .ok (.getfield 37, 3) := by decide +kernel
theorem dX7_untell_61 : decode cX7_untell 61 = .ok (.aload_n 0, 1) := by decide +kernel
theorem dX7_untell_62 : decode cX7_untell 62 = .ok (.getfield 10, 3) := by decide +kernel
theorem dX7_untell_65 : decode cX7_untell 65 = .ok (.invokevirtual 90, 3) := by decide +kernel
theorem dX7_untell_68 : decode cX7_untell 68 = .ok (.iload 5, 2) := by decide +kernel
theorem dX7_untell_70 : decode cX7_untell 70 = .ok (.ifCond .eq 7, 3) := by decide +kernel
theorem dX7_untell_73 : decode cX7_untell 73 = .ok (.iconst 1, 1) := by decide +kernel
theorem dX7_untell_74 : decode cX7_untell 74 = .ok (.goto 4, 3) := by decide +kernel
theorem dX7_untell_77 : decode cX7_untell 77 = .ok (.iconst 0, 1) := by decide +kernel
theorem dX7_untell_78 : decode cX7_untell 78 = .ok (.ireturn, 1) := by decide +kernel
theorem dX7_rule_0 : decode cX7_rule 0 = .ok (.iload_n 1, 1) := by decide +kernel
theorem dX7_rule_1 : decode cX7_rule 1 = .ok (.invokestatic 97, 3) := by decide +kernel
theorem dX7_rule_4 : decode cX7_rule 4 = .ok (.ifCond .eq 10, 3) := by decide +kernel
theorem dX7_rule_7 : decode cX7_rule 7 = .ok (.iload_n 2, 1) := by decide +kernel
theorem dX7_rule_8 : decode cX7_rule 8 = .ok (.invokestatic 97, 3) := by decide +kernel
theorem dX7_rule_11 : decode cX7_rule 11 = .ok (.ifCond .ne 13, 3) := by decide +kernel
theorem dX7_rule_14 : decode cX7_rule 14 = .ok (.new 53, 3) := by decide +kernel
theorem dX7_rule_17 : decode cX7_rule 17 = .ok (.dup, 1) := by decide +kernel
theorem dX7_rule_18 : decode cX7_rule 18 = .ok (.ldc 100, 2) := by decide +kernel
theorem dX7_rule_20 : decode cX7_rule 20 = .ok (.invokespecial 57, 3) := by decide +kernel
theorem dX7_rule_23 : decode cX7_rule 23 = .ok (.athrow, 1) := by decide +kernel
theorem dX7_rule_24 : decode cX7_rule 24 = .ok (.aload_n 0, 1) := by decide +kernel
theorem dX7_rule_25 : decode cX7_rule 25 = .ok (.getfield 10, 3) := by decide +kernel
theorem dX7_rule_28 : decode cX7_rule 28 = .ok (.invokevirtual 102, 3) := by decide +kernel
theorem dX7_rule_31 : decode cX7_rule 31 = .ok (.bipush 6, 2) := by decide +kernel
theorem dX7_rule_33 : decode cX7_rule 33 = .ok (.if_icmp .lt 13, 3) := by decide +kernel
theorem dX7_rule_36 : decode cX7_rule 36 = .ok (.new 78, 3) := by decide +kernel
theorem dX7_rule_39 : decode cX7_rule 39 = .ok (.dup, 1) := by decide +kernel
theorem dX7_rule_40 : decode cX7_rule 40 = .ok (.ldc 105, 2) := by decide +kernel
theorem dX7_rule_42 : decode cX7_rule 42 = .ok (.invokespecial 82, 3) := by decide +kernel
theorem dX7_rule_45 : decode cX7_rule 45 = .ok (.athrow, 1) := by decide +kernel
theorem dX7_rule_46 : decode cX7_rule 46 = .ok (.aload_n 0, 1) := by decide +kernel
theorem dX7_rule_47 : decode cX7_rule 47 = .ok (.iload_n 1, 1) := by decide +kernel
theorem dX7_rule_48 : decode cX7_rule 48 = .ok (.iload_n 2, 1) := by decide +kernel
theorem dX7_rule_49 : decode cX7_rule 49 = .ok (.iconst (-1), 1) := by decide +kernel
theorem dX7_rule_50 : decode cX7_rule 50 = .ok (.invokevirtual 107, 3) := by decide +kernel
theorem dX7_rule_53 : decode cX7_rule 53 = .ok (.ireturn, 1) := by decide +kernel
theorem dX7_joining_0 : decode cX7_joining 0 = .ok (.iload_n 1, 1) := by decide +kernel
theorem dX7_joining_1 : decode cX7_joining 1 = .ok (.invokestatic 97, 3) := by decide +kernel
theorem dX7_joining_4 : decode cX7_joining 4 = .ok (.ifCond .eq 17, 3) := by decide +kernel
theorem dX7_joining_7 : decode cX7_joining 7 = .ok (.iload_n 2, 1) := by decide +kernel
theorem dX7_joining_8 : decode cX7_joining 8 = .ok (.invokestatic 97, 3) := by decide +kernel
theorem dX7_joining_11 : decode cX7_joining 11 = .ok (.ifCond .eq 10, 3) := by decide +kernel
theorem dX7_joining_14 : decode cX7_joining 14 = .ok (.iload_n 3, 1) := by decide +kernel
theorem dX7_joining_15 : decode cX7_joining 15 = .ok (.invokestatic 97, 3) := by decide +kernel
theorem dX7_joining_18 : decode cX7_joining 18 = .ok (.ifCond .ne 13, 3) := by decide +kernel
theorem dX7_joining_21 : decode cX7_joining 21 = .ok (.new 53, 3) := by decide +kernel
theorem dX7_joining_24 : decode cX7_joining 24 = .ok (.dup, 1) := by decide +kernel
theorem dX7_joining_25 : decode cX7_joining 25 = .ok (.ldc 100, 2) := by decide +kernel
theorem dX7_joining_27 : decode cX7_joining 27 = .ok (.invokespecial 57, 3) := by decide +kernel
theorem dX7_joining_30 : decode cX7_joining 30 = .ok (.athrow, 1) := by decide +kernel
theorem dX7_joining_31 : decode cX7_joining 31 = .ok (.aload_n 0, 1) := by decide +kernel
theorem dX7_joining_32 : decode cX7_joining 32 = .ok (.getfield 10, 3) := by decide +kernel
theorem dX7_joining_35 : decode cX7_joining 35 = .ok (.invokevirtual 102, 3) := by decide +kernel
theorem dX7_joining_38 : decode cX7_joining 38 = .ok (.bipush 6, 2) := by decide +kernel
theorem dX7_joining_40 : decode cX7_joining 40 = .ok (.if_icmp .lt 13, 3) := by decide +kernel
theorem dX7_joining_43 : decode cX7_joining 43 = .ok (.new 78, 3) := by decide +kernel
theorem dX7_joining_46 : decode cX7_joining 46 = .ok (.dup, 1) := by decide +kernel
theorem dX7_joining_47 : decode cX7_joining 47 = .ok (.ldc 105, 2) := by decide +kernel
theorem dX7_joining_49 : decode cX7_joining 49 = .ok (.invokespecial 82, 3) := by decide +kernel
theorem dX7_joining_52 : decode cX7_joining 52 = .ok (.athrow, 1) := by decide +kernel
theorem dX7_joining_53 : decode cX7_joining 53 = .ok (.aload_n 0, 1) := by decide +kernel
theorem dX7_joining_54 : decode cX7_joining 54 = .ok (.iload_n 1, 1) := by decide +kernel
theorem dX7_joining_55 : decode cX7_joining 55 = .ok (.iload_n 2, 1) := by decide +kernel
theorem dX7_joining_56 : decode cX7_joining 56 = .ok (.iload_n 3, 1) := by decide +kernel
theorem dX7_joining_57 : decode cX7_joining 57 = .ok (.invokevirtual 107, 3) := by decide +kernel
theorem dX7_joining_60 : decode cX7_joining 60 = .ok (.ireturn, 1) := by decide +kernel
theorem dX7_remove_0 : decode cX7_remove 0 = .ok (.aload_n 0, 1) := by decide +kernel
theorem dX7_remove_1 : decode cX7_remove 1 = .ok (.getfield 10, 3) := by decide +kernel
theorem dX7_remove_4 : decode cX7_remove 4 = .ok (.iload_n 1, 1) := by decide +kernel
theorem dX7_remove_5 : decode cX7_remove 5 = .ok (.invokevirtual 110, 3) := by decide +kernel
theorem dX7_remove_8 : decode cX7_remove 8 = .ok (.ifCond .ne 13, 3) := by decide +kernel
theorem dX7_remove_11 : decode cX7_remove 11 = .ok (.new 113, 3) := by decide +kernel
theorem dX7_remove_14 : decode cX7_remove 14 = .ok (.dup, 1) := by decide +kernel
theorem dX7_remove_15 : decode cX7_remove 15 = .ok (.ldc 115, 2) := by decide +kernel
theorem dX7_remove_17 : decode cX7_remove 17 = .ok (.invokespecial 117, 3) := by decide +kernel
theorem dX7_remove_20 : decode cX7_remove 20 = .ok (.athrow, 1) := by decide +kernel
theorem dX7_remove_21 : decode cX7_remove 21 = .ok (.aload_n 0, 1) := by decide +kernel
theorem dX7_remove_22 : decode cX7_remove 22 = .ok (.invokevirtual 83, 3) := by decide +kernel
theorem dX7_remove_25 : decode cX7_remove 25 = .ok (.aload_n 0, 1) := by decide +kernel
theorem dX7_remove_26 : decode cX7_remove 26 = .ok (.getfield 10, 3) := by decide +kernel
theorem dX7_remove_29 : decode cX7_remove 29 = .ok (.iload_n 1, 1) := by decide +kernel
theorem dX7_remove_30 : decode cX7_remove 30 = .ok (.invokevirtual 118, 3) := by decide +kernel
theorem dX7_remove_33 : decode cX7_remove 33 = .ok (.aload_n 0, 1) := by decide +kernel
theorem dX7_remove_34 : decode cX7_remove 34 = .ok (.getfield 37, 3) := by decide +kernel
theorem dX7_remove_37 : decode cX7_remove 37 = .ok (.aload_n 0, 1) := by decide +kernel
theorem dX7_remove_38 : decode cX7_remove 38 = .ok (.getfield 10, 3) := by decide +kernel
theorem dX7_remove_41 : decode cX7_remove 41 = .ok (.invokevirtual 90, 3) := by decide +kernel
theorem dX7_remove_44 : decode cX7_remove 44 = .ok (.aload_n 0, 1) := by decide +kernel
theorem dX7_remove_45 : decode cX7_remove 45 = .ok (.getfield 10, 3) := by decide +kernel
theorem dX7_remove_48 : decode cX7_remove 48 = .ok (.invokevirtual 102, 3) := by decide +kernel
theorem dX7_remove_51 : decode cX7_remove 51 = .ok (.ireturn, 1) := by decide +kernel
theorem dX7_settle_0 : decode cX7_settle 0 = .ok (.aload_n 0, 1) := by decide +kernel
theorem dX7_settle_1 : decode cX7_settle 1 = .ok (.getfield 37, 3) := by decide +kernel
theorem dX7_settle_4 : decode cX7_settle 4 = .ok (.getfield 121, 3) := by decide +kernel
theorem dX7_settle_7 : decode cX7_settle 7 = .ok (.invokevirtual 74, 3) := by decide +kernel
theorem dX7_settle_10 : decode cX7_settle 10 = .ok (.bipush 12, 2) := by decide +kernel
theorem dX7_settle_12 : decode cX7_settle 12 = .ok (.if_icmp .le 13, 3) := by decide +kernel
theorem dX7_settle_15 : decode cX7_settle 15 = .ok (.new 78, 3) := by decide +kernel
theorem dX7_settle_18 : decode cX7_settle 18 = .ok (.dup, 1) := by decide +kernel
theorem dX7_settle_19 : decode cX7_settle 19 = .ok (.ldc 124, 2) := by decide +kernel
theorem dX7_settle_21 : decode cX7_settle 21 = .ok (.invokespecial 82, 3) := by decide +kernel
theorem dX7_settle_24 : decode cX7_settle 24 = .ok (.athrow, 1) := by decide +kernel
theorem dX7_settle_25 : decode cX7_settle 25 = .ok (.aload_n 0, 1) := by decide +kernel
theorem dX7_settle_26 : decode cX7_settle 26 = .ok (.invokevirtual 83, 3) := by decide +kernel
theorem dX7_settle_29 : decode cX7_settle 29 = .ok (.aload_n 0, 1) := by decide +kernel
theorem dX7_settle_30 : decode cX7_settle 30 = .ok (.getfield 10, 3) := by decide +kernel
theorem dX7_settle_33 : decode cX7_settle 33 = .ok (.getfield 64, 3) := by decide +kernel
theorem dX7_settle_36 : decode cX7_settle 36 = .ok (.aload_n 0, 1) := by decide +kernel
theorem dX7_settle_37 : decode cX7_settle 37 = .ok (.getfield 37, 3) := by decide +kernel
theorem dX7_settle_40 : decode cX7_settle 40 = .ok (.getfield 121, 3) := by decide +kernel
theorem dX7_settle_43 : decode cX7_settle 43 = .ok (.invokevirtual 126, 3) := by decide +kernel
theorem dX7_settle_46 : decode cX7_settle 46 = .ok (.aload_n 0, 1) := by decide +kernel
theorem dX7_settle_47 : decode cX7_settle 47 = .ok (.getfield 37, 3) := by decide +kernel
theorem dX7_settle_50 : decode cX7_settle 50 = .ok (.aload_n 0, 1) := by decide +kernel
theorem dX7_settle_51 : decode cX7_settle 51 = .ok (.getfield 10, 3) := by decide +kernel
theorem dX7_settle_54 : decode cX7_settle 54 = .ok (.invokevirtual 90, 3) := by decide +kernel
theorem dX7_settle_57 : decode cX7_settle 57 = .ok (.aload_n 0, 1) := by decide +kernel
theorem dX7_settle_58 : decode cX7_settle 58 = .ok (.getfield 10, 3) := by decide +kernel
theorem dX7_settle_61 : decode cX7_settle 61 = .ok (.getfield 64, 3) := by decide +kernel
theorem dX7_settle_64 : decode cX7_settle 64 = .ok (.invokevirtual 74, 3) := by decide +kernel
theorem dX7_settle_67 : decode cX7_settle 67 = .ok (.ireturn, 1) := by decide +kernel
theorem dX7_append_0 : decode cX7_append 0 = .ok (.iload_n 1, 1) := by decide +kernel
theorem dX7_append_1 : decode cX7_append 1 = .ok (.bipush 33, 2) := by decide +kernel
theorem dX7_append_3 : decode cX7_append 3 = .ok (.if_icmp .lt 9, 3) := by decide +kernel
theorem dX7_append_6 : decode cX7_append 6 = .ok (.iload_n 1, 1) := by decide +kernel
theorem dX7_append_7 : decode cX7_append 7 = .ok (.bipush 126, 2) := by decide +kernel
theorem dX7_append_9 : decode cX7_append 9 = .ok (.if_icmp .le 13, 3) := by decide +kernel
theorem dX7_append_12 : decode cX7_append 12 = .ok (.new 53, 3) := by decide +kernel
theorem dX7_append_15 : decode cX7_append 15 = .ok (.dup, 1) := by decide +kernel
theorem dX7_append_16 : decode cX7_append 16 = .ok (.ldc 130, 2) := by decide +kernel
theorem dX7_append_18 : decode cX7_append 18 = .ok (.invokespecial 57, 3) := by decide +kernel
theorem dX7_append_21 : decode cX7_append 21 = .ok (.athrow, 1) := by decide +kernel
theorem dX7_append_22 : decode cX7_append 22 = .ok (.aload_n 0, 1) := by decide +kernel
theorem dX7_append_23 : decode cX7_append 23 = .ok (.getfield 23, 3) := by decide +kernel
theorem dX7_append_26 : decode cX7_append 26 = .ok (.invokevirtual 132, 3) := by decide +kernel
theorem dX7_append_29 : decode cX7_append 29 = .ok (.bipush 60, 2) := by decide +kernel
theorem dX7_append_31 : decode cX7_append 31 = .ok (.if_icmp .lt 13, 3) := by decide +kernel
theorem dX7_append_34 : decode cX7_append 34 = .ok (.new 78, 3) := by decide +kernel
theorem dX7_append_37 : decode cX7_append 37 = .ok (.dup, 1) := by decide +kernel
theorem dX7_append_38 : decode cX7_append 38 = .ok (.ldc 133, 2) := by decide +kernel
theorem dX7_append_40 : decode cX7_append 40 = .ok (.invokespecial 82, 3) := by decide +kernel
theorem dX7_append_43 : decode cX7_append 43 = .ok (.athrow, 1) := by decide +kernel
theorem dX7_append_44 : decode cX7_append 44 = .ok (.aload_n 0, 1) := by decide +kernel
theorem dX7_append_45 : decode cX7_append 45 = .ok (.getfield 23, 3) := by decide +kernel
theorem dX7_append_48 : decode cX7_append 48 = .ok (.iload_n 1, 1) := by decide +kernel
theorem dX7_append_49 : decode cX7_append 49 = .ok (.invokevirtual 135, 3) := by decide +kernel
theorem dX7_append_52 : decode cX7_append 52 = .ok (.aload_n 0, 1) := by decide +kernel
theorem dX7_append_53 : decode cX7_append 53 = .ok (.getfield 23, 3) := by decide +kernel
theorem dX7_append_56 : decode cX7_append 56 = .ok (.invokevirtual 132, 3) := by decide +kernel
theorem dX7_append_59 : decode cX7_append 59 = .ok (.ireturn, 1) := by decide +kernel
theorem dX7_clearBuffer_0 : decode cX7_clearBuffer 0 = .ok (.aload_n 0, 1) := by decide +kernel
theorem dX7_clearBuffer_1 : decode cX7_clearBuffer 1 = .ok (.getfield 23, 3) := by decide +kernel
theorem dX7_clearBuffer_4 : decode cX7_clearBuffer 4 = .ok (.invokevirtual 132, 3) := by decide +kernel
theorem dX7_clearBuffer_7 : decode cX7_clearBuffer 7 = .ok (.istore_n 1, 1) := by decide +kernel
theorem dX7_clearBuffer_8 : decode cX7_clearBuffer 8 = .ok (.aload_n 0, 1) := by decide +kernel
theorem dX7_clearBuffer_9 : decode cX7_clearBuffer 9 = .ok (.getfield 23, 3) := by decide +kernel
theorem dX7_clearBuffer_12 : decode cX7_clearBuffer 12 = .ok (.invokevirtual 136, 3) := by decide +kernel
theorem dX7_clearBuffer_15 : decode cX7_clearBuffer 15 = .ok (.iload_n 1, 1) := by decide +kernel
theorem dX7_clearBuffer_16 : decode cX7_clearBuffer 16 = .ok (.ireturn, 1) := by decide +kernel
theorem dX7_firstError_0 : decode cX7_firstError 0 = .ok (.aload_n 0, 1) := by decide +kernel
theorem dX7_firstError_1 : decode cX7_firstError 1 = .ok (.getfield 30, 3) := by decide +kernel
theorem dX7_firstError_4 : decode cX7_firstError 4 = .ok (.aload_n 0, 1) := by decide +kernel
theorem dX7_firstError_5 : decode cX7_firstError 5 = .ok (.getfield 23, 3) := by decide +kernel
theorem dX7_firstError_8 : decode cX7_firstError 8 = .ok (.invokevirtual 139, 3) := by decide +kernel
theorem dX7_firstError_11 : decode cX7_firstError 11 = .ok (.ireturn, 1) := by decide +kernel
theorem dX7_read_0 : decode cX7_read 0 = .ok (.aload_n 0, 1) := by decide +kernel
theorem dX7_read_1 : decode cX7_read 1 = .ok (.getfield 30, 3) := by decide +kernel
theorem dX7_read_4 : decode cX7_read 4 = .ok (.aload_n 0, 1) := by decide +kernel
theorem dX7_read_5 : decode cX7_read 5 = .ok (.getfield 23, 3) := by decide +kernel
theorem dX7_read_8 : decode cX7_read 8 = .ok (.invokevirtual 139, 3) := by decide +kernel
theorem dX7_read_11 : decode cX7_read 11 = .ok (.aload_n 0, 1) := by decide +kernel
theorem dX7_read_12 : decode cX7_read 12 = .ok (.getfield 23, 3) := by decide +kernel
theorem dX7_read_15 : decode cX7_read 15 = .ok (.invokevirtual 132, 3) := by decide +kernel
theorem dX7_read_18 : decode cX7_read 18 = .ok (.if_icmp .lt 13, 3) := by decide +kernel
theorem dX7_read_21 : decode cX7_read 21 = .ok (.aload_n 0, 1) := by decide +kernel
theorem dX7_read_22 : decode cX7_read 22 = .ok (.getfield 30, 3) := by decide +kernel
theorem dX7_read_25 : decode cX7_read 25 = .ok (.invokevirtual 143, 3) := by decide +kernel
theorem dX7_read_28 : decode cX7_read 28 = .ok (.ifCond .ne 13, 3) := by decide +kernel
theorem dX7_read_31 : decode cX7_read 31 = .ok (.new 53, 3) := by decide +kernel
theorem dX7_read_34 : decode cX7_read 34 = .ok (.dup, 1) := by decide +kernel
theorem dX7_read_35 : decode cX7_read 35 = .ok (.ldc 147, 2) := by decide +kernel
theorem dX7_read_37 : decode cX7_read 37 = .ok (.invokespecial 57, 3) := by decide +kernel
theorem dX7_read_40 : decode cX7_read 40 = .ok (.athrow, 1) := by decide +kernel
theorem dX7_read_41 : decode cX7_read 41 = .ok (.aload_n 0, 1) := by decide +kernel
theorem dX7_read_42 : decode cX7_read 42 = .ok (.getfield 41, 3) := by decide +kernel
theorem dX7_read_45 : decode cX7_read 45 = .ok (.aload_n 0, 1) := by decide +kernel
theorem dX7_read_46 : decode cX7_read 46 = .ok (.getfield 10, 3) := by decide +kernel
theorem dX7_read_49 : decode cX7_read 49 = .ok (.invokevirtual 149, 3) := by decide +kernel
theorem dX7_read_52 : decode cX7_read 52 = .ok (.aload_n 0, 1) := by decide +kernel
theorem dX7_read_53 : decode cX7_read 53 = .ok (.getfield 30, 3) := by decide +kernel
theorem dX7_read_56 : decode cX7_read 56 = .ok (.aload_n 0, 1) := by decide +kernel
theorem dX7_read_57 : decode cX7_read 57 = .ok (.getfield 23, 3) := by decide +kernel
theorem dX7_read_60 : decode cX7_read 60 = .ok (.aload_n 0, 1) := by decide +kernel
theorem dX7_read_61 : decode cX7_read 61 = .ok (.getfield 41, 3) := by decide +kernel
theorem dX7_read_64 : decode cX7_read 64 = .ok (.invokevirtual 151, 3) := by decide +kernel
theorem dX7_read_67 : decode cX7_read 67 = .ok (.istore_n 1, 1) := by decide +kernel
theorem dX7_read_68 : decode cX7_read 68 = .ok (.iload_n 1, 1) := by decide +kernel
theorem dX7_read_69 : decode cX7_read 69 = .ok (.iconst (-1), 1) := by decide +kernel
theorem dX7_read_70 : decode cX7_read 70 = .ok (.if_icmp .eq 18, 3) := by decide +kernel
theorem dX7_read_73 : decode cX7_read 73 = .ok (.aload_n 0, 1) := by decide +kernel
theorem dX7_read_74 : decode cX7_read 74 = .ok (.getfield 41, 3) := by decide +kernel
theorem dX7_read_77 : decode cX7_read 77 = .ok (.getfield 64, 3) := by decide +kernel
theorem dX7_read_80 : decode cX7_read 80 = .ok (.invokevirtual 74, 3) := by decide +kernel
theorem dX7_read_83 : decode cX7_read 83 = .ok (.bipush 12, 2) := by decide +kernel
theorem dX7_read_85 : decode cX7_read 85 = .ok (.if_icmp .le 13, 3) := by decide +kernel
theorem dX7_read_88 : decode cX7_read 88 = .ok (.new 78, 3) := by decide +kernel
theorem dX7_read_91 : decode cX7_read 91 = .ok (.dup, 1) := by decide +kernel
theorem dX7_read_92 : decode cX7_read 92 = .ok (.ldc 155, 2) := by decide +kernel
theorem dX7_read_94 : decode cX7_read 94 = .ok (.invokespecial 82, 3) := by decide +kernel
theorem dX7_read_97 : decode cX7_read 97 = .ok (.athrow, 1) := by decide +kernel
theorem dX7_read_98 : decode cX7_read 98 = .ok (.aload_n 0, 1) := by decide +kernel
theorem dX7_read_99 : decode cX7_read 99 = .ok (.invokevirtual 83, 3) := by decide +kernel
theorem dX7_read_102 : decode cX7_read 102 = .ok (.aload_n 0, 1) := by decide +kernel
theorem dX7_read_103 : decode cX7_read 103 = .ok (.getfield 10, 3) := by decide +kernel
theorem dX7_read_106 : decode cX7_read 106 = .ok (.aload_n 0, 1) := by decide +kernel
theorem dX7_read_107 : decode cX7_read 107 = .ok (.getfield 41, 3) := by decide +kernel
theorem dX7_read_110 : decode cX7_read 110 = .ok (.invokevirtual 149, 3) := by decide +kernel
theorem dX7_read_113 : decode cX7_read 113 = .ok (.aload_n 0, 1) := by decide +kernel
theorem dX7_read_114 : decode cX7_read 114 = .ok (.getfield 37, 3) := by decide +kernel
theorem dX7_read_117 : decode cX7_read 117 = .ok (.aload_n 0, 1) := by decide +kernel
theorem dX7_read_118 : decode cX7_read 118 = .ok (.getfield 10, 3) := by decide +kernel
theorem dX7_read_121 : decode cX7_read 121 = .ok (.invokevirtual 90, 3) := by decide +kernel
theorem dX7_read_124 : decode cX7_read 124 = .ok (.aload_n 0, 1) := by decide +kernel
theorem dX7_read_125 : decode cX7_read 125 = .ok (.getfield 23, 3) := by decide +kernel
theorem dX7_read_128 : decode cX7_read 128 = .ok (.invokevirtual 136, 3) := by decide +kernel
theorem dX7_read_131 : decode cX7_read 131 = .ok (.iload_n 1, 1) := by decide +kernel
theorem dX7_read_132 : decode cX7_read 132 = .ok (.ireturn, 1) := by decide +kernel
theorem dX7_undo_0 : decode cX7_undo 0 = .ok (.aload_n 0, 1) := by decide +kernel
theorem dX7_undo_1 : decode cX7_undo 1 = .ok (.getfield 157, 3) := by decide +kernel
theorem dX7_undo_4 : decode cX7_undo 4 = .ok (.ifCond .le 15, 3) := by decide +kernel
theorem dX7_undo_7 : decode cX7_undo 7 = .ok (.aload_n 0, 1) := by decide +kernel
theorem dX7_undo_8 : decode cX7_undo 8 = .ok (.getfield 157, 3) := by decide +kernel
theorem dX7_undo_11 : decode cX7_undo 11 = .ok (.aload_n 0, 1) := by decide +kernel
theorem dX7_undo_12 : decode cX7_undo 12 = .ok (.getfield 16, 3) := by decide +kernel
theorem dX7_undo_15 : decode cX7_undo 15 = .ok (.arraylength, 1) := by decide +kernel
theorem dX7_undo_16 : decode cX7_undo 16 = .ok (.if_icmp .le 13, 3) := by decide +kernel
theorem dX7_undo_19 : decode cX7_undo 19 = .ok (.new 78, 3) := by decide +kernel
theorem dX7_undo_22 : decode cX7_undo 22 = .ok (.dup, 1) := by decide +kernel
theorem dX7_undo_23 : decode cX7_undo 23 = .ok (.ldc 161, 2) := by decide +kernel
theorem dX7_undo_25 : decode cX7_undo 25 = .ok (.invokespecial 82, 3) := by decide +kernel
theorem dX7_undo_28 : decode cX7_undo 28 = .ok (.athrow, 1) := by decide +kernel
theorem dX7_undo_29 : decode cX7_undo 29 = .ok (.aload_n 0, 1) := by decide +kernel
theorem dX7_undo_30 : decode cX7_undo 30 = .ok (.dup, 1) := by decide +kernel
theorem dX7_undo_31 : decode cX7_undo 31 = .ok (.getfield 157, 3) := by decide +kernel
theorem dX7_undo_34 : decode cX7_undo 34 = .ok (.iconst 1, 1) := by decide +kernel
theorem dX7_undo_35 : decode cX7_undo 35 = .ok (.isub, 1) := by decide +kernel
theorem dX7_undo_36 : decode cX7_undo 36 = .ok (.putfield 157, 3) := by decide +kernel
theorem dX7_undo_39 : decode cX7_undo 39 = .ok (.aload_n 0, 1) := by decide +kernel
theorem dX7_undo_40 : decode cX7_undo 40 = .ok (.getfield 10, 3) := by decide +kernel
theorem dX7_undo_43 : decode cX7_undo 43 = .ok (.aload_n 0, 1) := by decide +kernel
theorem dX7_undo_44 : decode cX7_undo 44 = .ok (.getfield 16, 3) := by decide +kernel
theorem dX7_undo_47 : decode cX7_undo 47 = .ok (.aload_n 0, 1) := by decide +kernel
theorem dX7_undo_48 : decode cX7_undo 48 = .ok (.getfield 157, 3) := by decide +kernel
theorem dX7_undo_51 : decode cX7_undo 51 = .ok (.aaload, 1) := by decide +kernel
theorem dX7_undo_52 : decode cX7_undo 52 = .ok (.invokevirtual 149, 3) := by decide +kernel
theorem dX7_undo_55 : decode cX7_undo 55 = .ok (.aload_n 0, 1) := by decide +kernel
theorem dX7_undo_56 : decode cX7_undo 56 = .ok (.getfield 37, 3) := by decide +kernel
theorem dX7_undo_59 : decode cX7_undo 59 = .ok (.aload_n 0, 1) := by decide +kernel
theorem dX7_undo_60 : decode cX7_undo 60 = .ok (.getfield 10, 3) := by decide +kernel
theorem dX7_undo_63 : decode cX7_undo 63 = .ok (.invokevirtual 90, 3) := by decide +kernel
theorem dX7_undo_66 : decode cX7_undo 66 = .ok (.aload_n 0, 1) := by decide +kernel
theorem dX7_undo_67 : decode cX7_undo 67 = .ok (.getfield 157, 3) := by decide +kernel
theorem dX7_undo_70 : decode cX7_undo 70 = .ok (.ireturn, 1) := by decide +kernel
theorem dX7_told_0 : decode cX7_told 0 = .ok (.iload_n 1, 1) := by decide +kernel
theorem dX7_told_1 : decode cX7_told 1 = .ok (.ifCond .ge 13, 3) := by decide +kernel
theorem dX7_told_4 : decode cX7_told 4 = .ok (.new 53, 3) := by decide +kernel
theorem dX7_told_7 : decode cX7_told 7 = .ok (.dup, 1) := by decide +kernel
theorem dX7_told_8 : decode cX7_told 8 = .ok (.ldc 163, 2) := by decide +kernel
theorem dX7_told_10 : decode cX7_told 10 = .ok (.invokespecial 57, 3) := by decide +kernel
theorem dX7_told_13 : decode cX7_told 13 = .ok (.athrow, 1) := by decide +kernel
theorem dX7_told_14 : decode cX7_told 14 = .ok (.aload_n 0, 1) := by decide +kernel
theorem dX7_told_15 : decode cX7_told 15 = .ok (.getfield 10, 3) := by decide +kernel
theorem dX7_told_18 : decode cX7_told 18 = .ok (.getfield 64, 3) := by decide +kernel
theorem dX7_told_21 : decode cX7_told 21 = .ok (.iload_n 1, 1) := by decide +kernel
theorem dX7_told_22 : decode cX7_told 22 = .ok (.invokevirtual 165, 3) := by decide +kernel
theorem dX7_told_25 : decode cX7_told 25 = .ok (.ireturn, 1) := by decide +kernel
theorem dX7_partOf_0 : decode cX7_partOf 0 = .ok (.aload_n 0, 1) := by decide +kernel
theorem dX7_partOf_1 : decode cX7_partOf 1 = .ok (.getfield 10, 3) := by decide +kernel
theorem dX7_partOf_4 : decode cX7_partOf 4 = .ok (.iload_n 1, 1) := by decide +kernel
theorem dX7_partOf_5 : decode cX7_partOf 5 = .ok (.invokevirtual 110, 3) := by decide +kernel
theorem dX7_partOf_8 : decode cX7_partOf 8 = .ok (.ifCond .ne 13, 3) := by decide +kernel
theorem dX7_partOf_11 : decode cX7_partOf 11 = .ok (.new 113, 3) := by decide +kernel
theorem dX7_partOf_14 : decode cX7_partOf 14 = .ok (.dup, 1) := by decide +kernel
theorem dX7_partOf_15 : decode cX7_partOf 15 = .ok (.ldc 115, 2) := by decide +kernel
theorem dX7_partOf_17 : decode cX7_partOf 17 = .ok (.invokespecial 117, 3) := by decide +kernel
theorem dX7_partOf_20 : decode cX7_partOf 20 = .ok (.athrow, 1) := by decide +kernel
theorem dX7_partOf_21 : decode cX7_partOf 21 = .ok (.iload_n 2, 1) := by decide +kernel
theorem dX7_partOf_22 : decode cX7_partOf 22 = .ok (.ifCond .lt 8, 3) := by decide +kernel
theorem dX7_partOf_25 : decode cX7_partOf 25 = .ok (.iload_n 2, 1) := by decide +kernel
theorem dX7_partOf_26 : decode cX7_partOf 26 = .ok (.iconst 2, 1) := by decide +kernel
theorem dX7_partOf_27 : decode cX7_partOf 27 = .ok (.if_icmp .le 13, 3) := by decide +kernel
theorem dX7_partOf_30 : decode cX7_partOf 30 = .ok (.new 53, 3) := by decide +kernel
theorem dX7_partOf_33 : decode cX7_partOf 33 = .ok (.dup, 1) := by decide +kernel
theorem dX7_partOf_34 : decode cX7_partOf 34 = .ok (.ldc 169, 2) := by decide +kernel
theorem dX7_partOf_36 : decode cX7_partOf 36 = .ok (.invokespecial 57, 3) := by decide +kernel
theorem dX7_partOf_39 : decode cX7_partOf 39 = .ok (.athrow, 1) := by decide +kernel
theorem dX7_partOf_40 : decode cX7_partOf 40 = .ok (.aload_n 0, 1) := by decide +kernel
theorem dX7_partOf_41 : decode cX7_partOf 41 = .ok (.getfield 10, 3) := by decide +kernel
theorem dX7_partOf_44 : decode cX7_partOf 44 = .ok (.iload_n 1, 1) := by decide +kernel
theorem dX7_partOf_45 : decode cX7_partOf 45 = .ok (.iload_n 2, 1) := by decide +kernel
theorem dX7_partOf_46 : decode cX7_partOf 46 = .ok (.invokevirtual 171, 3) := by decide +kernel
theorem dX7_partOf_49 : decode cX7_partOf 49 = .ok (.ireturn, 1) := by decide +kernel
theorem dX7_found_0 : decode cX7_found 0 = .ok (.iload_n 1, 1) := by decide +kernel
theorem dX7_found_1 : decode cX7_found 1 = .ok (.ifCond .lt 12, 3) := by decide +kernel
theorem dX7_found_4 : decode cX7_found 4 = .ok (.iload_n 2, 1) := by decide +kernel
theorem dX7_found_5 : decode cX7_found 5 = .ok (.ifCond .lt 8, 3) := by decide +kernel
theorem dX7_found_8 : decode cX7_found 8 = .ok (.iload_n 2, 1) := by decide +kernel
theorem dX7_found_9 : decode cX7_found 9 = .ok (.iconst 3, 1) := by decide +kernel
theorem dX7_found_10 : decode cX7_found 10 = .ok (.if_icmp .le 13, 3) := by decide +kernel
theorem dX7_found_13 : decode cX7_found 13 = .ok (.new 53, 3) := by decide +kernel
theorem dX7_found_16 : decode cX7_found 16 = .ok (.dup, 1) := by decide +kernel
theorem dX7_found_17 : decode cX7_found 17 = .ok (.ldc 175, 2) := by decide +kernel
theorem dX7_found_19 : decode cX7_found 19 = .ok (.invokespecial 57, 3) := by decide +kernel
theorem dX7_found_22 : decode cX7_found 22 = .ok (.athrow, 1) := by decide +kernel
theorem dX7_found_23 : decode cX7_found 23 = .ok (.aload_n 0, 1) := by decide +kernel
theorem dX7_found_24 : decode cX7_found 24 = .ok (.getfield 37, 3) := by decide +kernel
theorem dX7_found_27 : decode cX7_found 27 = .ok (.getfield 121, 3) := by decide +kernel
theorem dX7_found_30 : decode cX7_found 30 = .ok (.iload_n 1, 1) := by decide +kernel
theorem dX7_found_31 : decode cX7_found 31 = .ok (.invokevirtual 165, 3) := by decide +kernel
theorem dX7_found_34 : decode cX7_found 34 = .ok (.istore_n 3, 1) := by decide +kernel
theorem dX7_found_35 : decode cX7_found 35 = .ok (.iload_n 3, 1) := by decide +kernel
theorem dX7_found_36 : decode cX7_found 36 = .ok (.iconst (-1), 1) := by decide +kernel
theorem dX7_found_37 : decode cX7_found 37 = .ok (.if_icmp .ne 5, 3) := by decide +kernel
theorem dX7_found_40 : decode cX7_found 40 = .ok (.iconst (-1), 1) := by decide +kernel
theorem dX7_found_41 : decode cX7_found 41 = .ok (.ireturn, 1) := by decide +kernel
theorem dX7_found_42 : decode cX7_found 42 = .ok (.iload_n 2, 1) := by decide +kernel
theorem dX7_found_43 : decode cX7_found 43 = .ok (.tableswitch 45 0 2 #[25, 27, 36], 25) := by decide +kernel
theorem dX7_found_68 : decode cX7_found 68 = .ok (.iload_n 3, 1) := by decide +kernel
theorem dX7_found_69 : decode cX7_found 69 = .ok (.ireturn, 1) := by decide +kernel
theorem dX7_found_70 : decode cX7_found 70 = .ok (.aload_n 0, 1) := by decide +kernel
theorem dX7_found_71 : decode cX7_found 71 = .ok (.getfield 37, 3) := by decide +kernel
theorem dX7_found_74 : decode cX7_found 74 = .ok (.iload_n 3, 1) := by decide +kernel
theorem dX7_found_75 : decode cX7_found 75 = .ok (.invokevirtual 177, 3) := by decide +kernel
theorem dX7_found_78 : decode cX7_found 78 = .ok (.ireturn, 1) := by decide +kernel
theorem dX7_found_79 : decode cX7_found 79 = .ok (.aload_n 0, 1) := by decide +kernel
theorem dX7_found_80 : decode cX7_found 80 = .ok (.getfield 37, 3) := by decide +kernel
theorem dX7_found_83 : decode cX7_found 83 = .ok (.iload_n 3, 1) := by decide +kernel
theorem dX7_found_84 : decode cX7_found 84 = .ok (.invokevirtual 180, 3) := by decide +kernel
theorem dX7_found_87 : decode cX7_found 87 = .ok (.ireturn, 1) := by decide +kernel
theorem dX7_found_88 : decode cX7_found 88 = .ok (.iload_n 3, 1) := by decide +kernel
theorem dX7_found_89 : decode cX7_found 89 = .ok (.invokestatic 183, 3) := by decide +kernel
theorem dX7_found_92 : decode cX7_found 92 = .ok (.invokestatic 186, 3) := by decide +kernel
theorem dX7_found_95 : decode cX7_found 95 = .ok (.ireturn, 1) := by decide +kernel
theorem dX7_count_0 : decode cX7_count 0 = .ok (.iload_n 1, 1) := by decide +kernel
theorem dX7_count_1 : decode cX7_count 1 = .ok (.ifCond .lt 9, 3) := by decide +kernel
theorem dX7_count_4 : decode cX7_count 4 = .ok (.iload_n 1, 1) := by decide +kernel
theorem dX7_count_5 : decode cX7_count 5 = .ok (.bipush 7, 2) := by decide +kernel
theorem dX7_count_7 : decode cX7_count 7 = .ok (.if_icmp .le 13, 3) := by decide +kernel
theorem dX7_count_10 : decode cX7_count 10 = .ok (.new 53, 3) := by decide +kernel
theorem dX7_count_13 : decode cX7_count 13 = .ok (.dup, 1) := by decide +kernel
theorem dX7_count_14 : decode cX7_count 14 = .ok (.ldc 191, 2) := by decide +kernel
theorem dX7_count_16 : decode cX7_count 16 = .ok (.invokespecial 57, 3) := by decide +kernel
theorem dX7_count_19 : decode cX7_count 19 = .ok (.athrow, 1) := by decide +kernel
theorem dX7_count_20 : decode cX7_count 20 = .ok (.iload_n 1, 1) := by decide +kernel
theorem dX7_count_21 : decode cX7_count 21 = .ok (.tableswitch 108 0 6 #[43, 54, 62, 73, 81, 89, 97], 43) := by decide +kernel
theorem dX7_count_64 : decode cX7_count 64 = .ok (.aload_n 0, 1) := by decide +kernel
theorem dX7_count_65 : decode cX7_count 65 = .ok (.getfield 10, 3) := by decide +kernel
theorem dX7_count_68 : decode cX7_count 68 = .ok (.getfield 64, 3) := by decide +kernel
theorem dX7_count_71 : decode cX7_count 71 = .ok (.invokevirtual 74, 3) := by decide +kernel
theorem dX7_count_74 : decode cX7_count 74 = .ok (.ireturn, 1) := by decide +kernel
theorem dX7_count_75 : decode cX7_count 75 = .ok (.aload_n 0, 1) := by decide +kernel
theorem dX7_count_76 : decode cX7_count 76 = .ok (.getfield 10, 3) := by decide +kernel
theorem dX7_count_79 : decode cX7_count 79 = .ok (.invokevirtual 102, 3) := by decide +kernel
theorem dX7_count_82 : decode cX7_count 82 = .ok (.ireturn, 1) := by decide +kernel
theorem dX7_count_83 : decode cX7_count 83 = .ok (.aload_n 0, 1) := by decide +kernel
theorem dX7_count_84 : decode cX7_count 84 = .ok (.getfield 37, 3) := by decide +kernel
theorem dX7_count_87 : decode cX7_count 87 = .ok (.getfield 121, 3) := by decide +kernel
theorem dX7_count_90 : decode cX7_count 90 = .ok (.invokevirtual 74, 3) := by decide +kernel
theorem dX7_count_93 : decode cX7_count 93 = .ok (.ireturn, 1) := by decide +kernel
theorem dX7_count_94 : decode cX7_count 94 = .ok (.aload_n 0, 1) := by decide +kernel
theorem dX7_count_95 : decode cX7_count 95 = .ok (.getfield 37, 3) := by decide +kernel
theorem dX7_count_98 : decode cX7_count 98 = .ok (.getfield 193, 3) := by decide +kernel
theorem dX7_count_101 : decode cX7_count 101 = .ok (.ireturn, 1) := by decide +kernel
theorem dX7_count_102 : decode cX7_count 102 = .ok (.aload_n 0, 1) := by decide +kernel
theorem dX7_count_103 : decode cX7_count 103 = .ok (.getfield 37, 3) := by decide +kernel
theorem dX7_count_106 : decode cX7_count 106 = .ok (.getfield 196, 3) := by decide +kernel
theorem dX7_count_109 : decode cX7_count 109 = .ok (.ireturn, 1) := by decide +kernel
theorem dX7_count_110 : decode cX7_count 110 = .ok (.aload_n 0, 1) := by decide +kernel
theorem dX7_count_111 : decode cX7_count 111 = .ok (.getfield 37, 3) := by decide +kernel
theorem dX7_count_114 : decode cX7_count 114 = .ok (.getfield 199, 3) := by decide +kernel
theorem dX7_count_117 : decode cX7_count 117 = .ok (.ireturn, 1) := by decide +kernel
theorem dX7_count_118 : decode cX7_count 118 = .ok (.aload_n 0, 1) := by decide +kernel
theorem dX7_count_119 : decode cX7_count 119 = .ok (.getfield 37, 3) := by decide +kernel
theorem dX7_count_122 : decode cX7_count 122 = .ok (.getfield 121, 3) := by decide +kernel
theorem dX7_count_125 : decode cX7_count 125 = .ok (.invokevirtual 202, 3) := by decide +kernel
theorem dX7_count_128 : decode cX7_count 128 = .ok (.ireturn, 1) := by decide +kernel
theorem dX7_count_129 : decode cX7_count 129 = .ok (.aload_n 0, 1) := by decide +kernel
theorem dX7_count_130 : decode cX7_count 130 = .ok (.getfield 157, 3) := by decide +kernel
theorem dX7_count_133 : decode cX7_count 133 = .ok (.ireturn, 1) := by decide +kernel
theorem dX7_follows_0 : decode cX7_follows 0 = .ok (.iload_n 1, 1) := by decide +kernel
theorem dX7_follows_1 : decode cX7_follows 1 = .ok (.iload_n 2, 1) := by decide +kernel
theorem dX7_follows_2 : decode cX7_follows 2 = .ok (.iload_n 3, 1) := by decide +kernel
theorem dX7_follows_3 : decode cX7_follows 3 = .ok (.invokestatic 47, 3) := by decide +kernel
theorem dX7_follows_6 : decode cX7_follows 6 = .ok (.ifCond .ne 13, 3) := by decide +kernel
theorem dX7_follows_9 : decode cX7_follows 9 = .ok (.new 53, 3) := by decide +kernel
theorem dX7_follows_12 : decode cX7_follows 12 = .ok (.dup, 1) := by decide +kernel
theorem dX7_follows_13 : decode cX7_follows 13 = .ok (.ldc 55, 2) := by decide +kernel
theorem dX7_follows_15 : decode cX7_follows 15 = .ok (.invokespecial 57, 3) := by decide +kernel
theorem dX7_follows_18 : decode cX7_follows 18 = .ok (.athrow, 1) := by decide +kernel
theorem dX7_follows_19 : decode cX7_follows 19 = .ok (.iload_n 1, 1) := by decide +kernel
theorem dX7_follows_20 : decode cX7_follows 20 = .ok (.iload_n 2, 1) := by decide +kernel
theorem dX7_follows_21 : decode cX7_follows 21 = .ok (.iload_n 3, 1) := by decide +kernel
theorem dX7_follows_22 : decode cX7_follows 22 = .ok (.invokestatic 60, 3) := by decide +kernel
theorem dX7_follows_25 : decode cX7_follows 25 = .ok (.istore 4, 2) := by decide +kernel
theorem dX7_follows_27 : decode cX7_follows 27 = .ok (.aload_n 0, 1) := by decide +kernel
theorem dX7_follows_28 : decode cX7_follows 28 = .ok (.getfield 37, 3) := by decide +kernel
theorem dX7_follows_31 : decode cX7_follows 31 = .ok (.getfield 121, 3) := by decide +kernel
theorem dX7_follows_34 : decode cX7_follows 34 = .ok (.iload 4, 2) := by decide +kernel
theorem dX7_follows_36 : decode cX7_follows 36 = .ok (.invokevirtual 68, 3) := by decide +kernel
theorem dX7_follows_39 : decode cX7_follows 39 = .ok (.ifCond .eq 5, 3) := by decide +kernel
theorem dX7_follows_42 : decode cX7_follows 42 = .ok (.iconst 2, 1) := by decide +kernel
theorem dX7_follows_43 : decode cX7_follows 43 = .ok (.ireturn, 1) := by decide +kernel
theorem dX7_follows_44 : decode cX7_follows 44 = .ok (.aload_n 0, 1) := by decide +kernel
theorem dX7_follows_45 : decode cX7_follows 45 = .ok (.getfield 37, 3) := by decide +kernel
theorem dX7_follows_48 : decode cX7_follows 48 = .ok (.getfield 205, 3) := by decide +kernel
theorem dX7_follows_51 : decode cX7_follows 51 = .ok (.iload 4, 2) := by decide +kernel
theorem dX7_follows_53 : decode cX7_follows 53 = .ok (.invokevirtual 68, 3) := by decide +kernel
theorem dX7_follows_56 : decode cX7_follows 56 = .ok (.ifCond .eq 7, 3) := by decide +kernel
theorem dX7_follows_59 : decode cX7_follows 59 = .ok (.iconst 1, 1) := by decide +kernel
theorem dX7_follows_60 : decode cX7_follows 60 = .ok (.goto 4, 3) := by decide +kernel
theorem dX7_follows_63 : decode cX7_follows 63 = .ok (.iconst 0, 1) := by decide +kernel
theorem dX7_follows_64 : decode cX7_follows 64 = .ok (.ireturn, 1) := by decide +kernel
theorem dX7_instances_0 : decode cX7_instances 0 = .ok (.iload_n 1, 1) := by decide +kernel
theorem dX7_instances_1 : decode cX7_instances 1 = .ok (.iload_n 2, 1) := by decide +kernel
theorem dX7_instances_2 : decode cX7_instances 2 = .ok (.iload_n 3, 1) := by decide +kernel
theorem dX7_instances_3 : decode cX7_instances 3 = .ok (.invokestatic 47, 3) := by decide +kernel
theorem dX7_instances_6 : decode cX7_instances 6 = .ok (.ifCond .ne 13, 3) := by decide +kernel
theorem dX7_instances_9 : decode cX7_instances 9 = .ok (.new 53, 3) := by decide +kernel
theorem dX7_instances_12 : decode cX7_instances 12 = .ok (.dup, 1) := by decide +kernel
theorem dX7_instances_13 : decode cX7_instances 13 = .ok (.ldc 55, 2) := by decide +kernel
theorem dX7_instances_15 : decode cX7_instances 15 = .ok (.invokespecial 57, 3) := by decide +kernel
theorem dX7_instances_18 : decode cX7_instances 18 = .ok (.athrow, 1) := by decide +kernel
theorem dX7_instances_19 : decode cX7_instances 19 = .ok (.iload_n 1, 1) := by decide +kernel
theorem dX7_instances_20 : decode cX7_instances 20 = .ok (.iload_n 2, 1) := by decide +kernel
theorem dX7_instances_21 : decode cX7_instances 21 = .ok (.iload_n 3, 1) := by decide +kernel
theorem dX7_instances_22 : decode cX7_instances 22 = .ok (.invokestatic 60, 3) := by decide +kernel
theorem dX7_instances_25 : decode cX7_instances 25 = .ok (.istore 4, 2) := by decide +kernel
theorem dX7_instances_27 : decode cX7_instances 27 = .ok (.iload 4, 2) := by decide +kernel
theorem dX7_instances_29 : decode cX7_instances 29 = .ok (.invokestatic 183, 3) := by decide +kernel
theorem dX7_instances_32 : decode cX7_instances 32 = .ok (.aload_n 0, 1) := by decide +kernel
theorem dX7_instances_33 : decode cX7_instances 33 = .ok (.getfield 37, 3) := by decide +kernel
theorem dX7_instances_36 : decode cX7_instances 36 = .ok (.getfield 121, 3) := by decide +kernel
theorem dX7_instances_39 : decode cX7_instances 39 = .ok (.iload_n 1, 1) := by decide +kernel
theorem dX7_instances_40 : decode cX7_instances 40 = .ok (.invokevirtual 208, 3) := by decide +kernel
theorem dX7_instances_43 : decode cX7_instances 43 = .ok (.iand, 1) := by decide +kernel
theorem dX7_instances_44 : decode cX7_instances 44 = .ok (.ireturn, 1) := by decide +kernel
theorem dX7_behind_0 : decode cX7_behind 0 = .ok (.iload_n 1, 1) := by decide +kernel
theorem dX7_behind_1 : decode cX7_behind 1 = .ok (.ifCond .ge 13, 3) := by decide +kernel
theorem dX7_behind_4 : decode cX7_behind 4 = .ok (.new 53, 3) := by decide +kernel
theorem dX7_behind_7 : decode cX7_behind 7 = .ok (.dup, 1) := by decide +kernel
theorem dX7_behind_8 : decode cX7_behind 8 = .ok (.ldc 211, 2) := by decide +kernel
theorem dX7_behind_10 : decode cX7_behind 10 = .ok (.invokespecial 57, 3) := by decide +kernel
theorem dX7_behind_13 : decode cX7_behind 13 = .ok (.athrow, 1) := by decide +kernel
theorem dX7_behind_14 : decode cX7_behind 14 = .ok (.aload_n 0, 1) := by decide +kernel
theorem dX7_behind_15 : decode cX7_behind 15 = .ok (.getfield 37, 3) := by decide +kernel
theorem dX7_behind_18 : decode cX7_behind 18 = .ok (.iload_n 1, 1) := by decide +kernel
theorem dX7_behind_19 : decode cX7_behind 19 = .ok (.invokevirtual 213, 3) := by decide +kernel
theorem dX7_behind_22 : decode cX7_behind 22 = .ok (.ireturn, 1) := by decide +kernel
theorem dX7_without_0 : decode cX7_without 0 = .ok (.aload_n 0, 1) := by decide +kernel
theorem dX7_without_1 : decode cX7_without 1 = .ok (.getfield 10, 3) := by decide +kernel
theorem dX7_without_4 : decode cX7_without 4 = .ok (.iload_n 1, 1) := by decide +kernel
theorem dX7_without_5 : decode cX7_without 5 = .ok (.invokevirtual 110, 3) := by decide +kernel
theorem dX7_without_8 : decode cX7_without 8 = .ok (.ifCond .ne 13, 3) := by decide +kernel
theorem dX7_without_11 : decode cX7_without 11 = .ok (.new 113, 3) := by decide +kernel
theorem dX7_without_14 : decode cX7_without 14 = .ok (.dup, 1) := by decide +kernel
theorem dX7_without_15 : decode cX7_without 15 = .ok (.ldc 115, 2) := by decide +kernel
theorem dX7_without_17 : decode cX7_without 17 = .ok (.invokespecial 117, 3) := by decide +kernel
theorem dX7_without_20 : decode cX7_without 20 = .ok (.athrow, 1) := by decide +kernel
theorem dX7_without_21 : decode cX7_without 21 = .ok (.iload_n 2, 1) := by decide +kernel
theorem dX7_without_22 : decode cX7_without 22 = .ok (.ifCond .lt 8, 3) := by decide +kernel
theorem dX7_without_25 : decode cX7_without 25 = .ok (.iload_n 2, 1) := by decide +kernel
theorem dX7_without_26 : decode cX7_without 26 = .ok (.iconst 2, 1) := by decide +kernel
theorem dX7_without_27 : decode cX7_without 27 = .ok (.if_icmp .le 13, 3) := by decide +kernel
theorem dX7_without_30 : decode cX7_without 30 = .ok (.new 53, 3) := by decide +kernel
theorem dX7_without_33 : decode cX7_without 33 = .ok (.dup, 1) := by decide +kernel
theorem dX7_without_34 : decode cX7_without 34 = .ok (.ldc 216, 2) := by decide +kernel
theorem dX7_without_36 : decode cX7_without 36 = .ok (.invokespecial 57, 3) := by decide +kernel
theorem dX7_without_39 : decode cX7_without 39 = .ok (.athrow, 1) := by decide +kernel
theorem dX7_without_40 : decode cX7_without 40 = .ok (.aload_n 0, 1) := by decide +kernel
theorem dX7_without_41 : decode cX7_without 41 = .ok (.getfield 41, 3) := by decide +kernel
theorem dX7_without_44 : decode cX7_without 44 = .ok (.aload_n 0, 1) := by decide +kernel
theorem dX7_without_45 : decode cX7_without 45 = .ok (.getfield 10, 3) := by decide +kernel
theorem dX7_without_48 : decode cX7_without 48 = .ok (.invokevirtual 149, 3) := by decide +kernel
theorem dX7_without_51 : decode cX7_without 51 = .ok (.aload_n 0, 1) := by decide +kernel
theorem dX7_without_52 : decode cX7_without 52 = .ok (.getfield 41, 3) := by decide +kernel
theorem dX7_without_55 : decode cX7_without 55 = .ok (.iload_n 1, 1) := by decide +kernel
theorem dX7_without_56 : decode cX7_without 56 = .ok (.invokevirtual 118, 3) := by decide +kernel
theorem dX7_without_59 : decode cX7_without 59 = .ok (.aload_n 0, 1) := by decide +kernel
theorem dX7_without_60 : decode cX7_without 60 = .ok (.getfield 44, 3) := by decide +kernel
theorem dX7_without_63 : decode cX7_without 63 = .ok (.aload_n 0, 1) := by decide +kernel
theorem dX7_without_64 : decode cX7_without 64 = .ok (.getfield 41, 3) := by decide +kernel
theorem dX7_without_67 : decode cX7_without 67 = .ok (.invokevirtual 90, 3) := by decide +kernel
theorem dX7_without_70 : decode cX7_without 70 = .ok (.iload_n 2, 1) := by decide +kernel
theorem dX7_without_71 : decode cX7_without 71 = .ok (.lookupswitch 44 #[(0, 25), (1, 36)], 25) := by decide +kernel
theorem dX7_without_96 : decode cX7_without 96 = .ok (.aload_n 0, 1) := by decide +kernel
theorem dX7_without_97 : decode cX7_without 97 = .ok (.getfield 44, 3) := by decide +kernel
theorem dX7_without_100 : decode cX7_without 100 = .ok (.getfield 121, 3) := by decide +kernel
theorem dX7_without_103 : decode cX7_without 103 = .ok (.invokevirtual 74, 3) := by decide +kernel
theorem dX7_without_106 : decode cX7_without 106 = .ok (.ireturn, 1) := by decide +kernel
theorem dX7_without_107 : decode cX7_without 107 = .ok (.aload_n 0, 1) := by decide +kernel
theorem dX7_without_108 : decode cX7_without 108 = .ok (.getfield 44, 3) := by decide +kernel
theorem dX7_without_111 : decode cX7_without 111 = .ok (.getfield 193, 3) := by decide +kernel
theorem dX7_without_114 : decode cX7_without 114 = .ok (.ireturn, 1) := by decide +kernel
theorem dX7_without_115 : decode cX7_without 115 = .ok (.aload_n 0, 1) := by decide +kernel
theorem dX7_without_116 : decode cX7_without 116 = .ok (.getfield 37, 3) := by decide +kernel
theorem dX7_without_119 : decode cX7_without 119 = .ok (.getfield 121, 3) := by decide +kernel
theorem dX7_without_122 : decode cX7_without 122 = .ok (.invokevirtual 202, 3) := by decide +kernel
theorem dX7_without_125 : decode cX7_without 125 = .ok (.aload_n 0, 1) := by decide +kernel
theorem dX7_without_126 : decode cX7_without 126 = .ok (.getfield 44, 3) := by decide +kernel
theorem dX7_without_129 : decode cX7_without 129 = .ok (.getfield 121, 3) := by decide +kernel
theorem dX7_without_132 : decode cX7_without 132 = .ok (.invokevirtual 202, 3) := by decide +kernel
theorem dX7_without_135 : decode cX7_without 135 = .ok (.isub, 1) := by decide +kernel
theorem dX7_without_136 : decode cX7_without 136 = .ok (.ireturn, 1) := by decide +kernel
theorem dX7_spare_0 : decode cX7_spare 0 = .ok (.iload_n 1, 1) := by decide +kernel
theorem dX7_spare_1 : decode cX7_spare 1 = .ok (.ifCond .ge 13, 3) := by decide +kernel
theorem dX7_spare_4 : decode cX7_spare 4 = .ok (.new 53, 3) := by decide +kernel
theorem dX7_spare_7 : decode cX7_spare 7 = .ok (.dup, 1) := by decide +kernel
theorem dX7_spare_8 : decode cX7_spare 8 = .ok (.ldc 163, 2) := by decide +kernel
theorem dX7_spare_10 : decode cX7_spare 10 = .ok (.invokespecial 57, 3) := by decide +kernel
theorem dX7_spare_13 : decode cX7_spare 13 = .ok (.athrow, 1) := by decide +kernel
theorem dX7_spare_14 : decode cX7_spare 14 = .ok (.aload_n 0, 1) := by decide +kernel
theorem dX7_spare_15 : decode cX7_spare 15 = .ok (.getfield 10, 3) := by decide +kernel
theorem dX7_spare_18 : decode cX7_spare 18 = .ok (.getfield 64, 3) := by decide +kernel
theorem dX7_spare_21 : decode cX7_spare 21 = .ok (.iload_n 1, 1) := by decide +kernel
theorem dX7_spare_22 : decode cX7_spare 22 = .ok (.invokevirtual 165, 3) := by decide +kernel
theorem dX7_spare_25 : decode cX7_spare 25 = .ok (.istore_n 2, 1) := by decide +kernel
theorem dX7_spare_26 : decode cX7_spare 26 = .ok (.iload_n 2, 1) := by decide +kernel
theorem dX7_spare_27 : decode cX7_spare 27 = .ok (.iconst (-1), 1) := by decide +kernel
theorem dX7_spare_28 : decode cX7_spare 28 = .ok (.if_icmp .ne 5, 3) := by decide +kernel
theorem dX7_spare_31 : decode cX7_spare 31 = .ok (.iconst (-1), 1) := by decide +kernel
theorem dX7_spare_32 : decode cX7_spare 32 = .ok (.ireturn, 1) := by decide +kernel
theorem dX7_spare_33 : decode cX7_spare 33 = .ok (.aload_n 0, 1) := by decide +kernel
theorem dX7_spare_34 : decode cX7_spare 34 = .ok (.getfield 41, 3) := by decide +kernel
theorem dX7_spare_37 : decode cX7_spare 37 = .ok (.aload_n 0, 1) := by decide +kernel
theorem dX7_spare_38 : decode cX7_spare 38 = .ok (.getfield 10, 3) := by decide +kernel
theorem dX7_spare_41 : decode cX7_spare 41 = .ok (.invokevirtual 149, 3) := by decide +kernel
theorem dX7_spare_44 : decode cX7_spare 44 = .ok (.aload_n 0, 1) := by decide +kernel
theorem dX7_spare_45 : decode cX7_spare 45 = .ok (.getfield 41, 3) := by decide +kernel
theorem dX7_spare_48 : decode cX7_spare 48 = .ok (.getfield 64, 3) := by decide +kernel
theorem dX7_spare_51 : decode cX7_spare 51 = .ok (.iload_n 2, 1) := by decide +kernel
theorem dX7_spare_52 : decode cX7_spare 52 = .ok (.invokevirtual 94, 3) := by decide +kernel
theorem dX7_spare_55 : decode cX7_spare 55 = .ok (.aload_n 0, 1) := by decide +kernel
theorem dX7_spare_56 : decode cX7_spare 56 = .ok (.getfield 44, 3) := by decide +kernel
theorem dX7_spare_59 : decode cX7_spare 59 = .ok (.aload_n 0, 1) := by decide +kernel
theorem dX7_spare_60 : decode cX7_spare 60 = .ok (.getfield 41, 3) := by decide +kernel
theorem dX7_spare_63 : decode cX7_spare 63 = .ok (.invokevirtual 90, 3) := by decide +kernel
theorem dX7_spare_66 : decode cX7_spare 66 = .ok (.aload_n 0, 1) := by decide +kernel
theorem dX7_spare_67 : decode cX7_spare 67 = .ok (.getfield 44, 3) := by decide +kernel
theorem dX7_spare_70 : decode cX7_spare 70 = .ok (.getfield 205, 3) := by decide +kernel
theorem dX7_spare_73 : decode cX7_spare 73 = .ok (.iload_n 2, 1) := by decide +kernel
theorem dX7_spare_74 : decode cX7_spare 74 = .ok (.invokevirtual 68, 3) := by decide +kernel
theorem dX7_spare_77 : decode cX7_spare 77 = .ok (.ifCond .eq 7, 3) := by decide +kernel
theorem dX7_spare_80 : decode cX7_spare 80 = .ok (.iconst 1, 1) := by decide +kernel
theorem dX7_spare_81 : decode cX7_spare 81 = .ok (.goto 4, 3) := by decide +kernel
theorem dX7_spare_84 : decode cX7_spare 84 = .ok (.iconst 0, 1) := by decide +kernel
theorem dX7_spare_85 : decode cX7_spare 85 = .ok (.ireturn, 1) := by decide +kernel
theorem dX7_richest_0 : decode cX7_richest 0 = .ok (.iload_n 1, 1) := by decide +kernel
theorem dX7_richest_1 : decode cX7_richest 1 = .ok (.ifCond .lt 8, 3) := by decide +kernel
theorem dX7_richest_4 : decode cX7_richest 4 = .ok (.iload_n 1, 1) := by decide +kernel
theorem dX7_richest_5 : decode cX7_richest 5 = .ok (.iconst 4, 1) := by decide +kernel
theorem dX7_richest_6 : decode cX7_richest 6 = .ok (.if_icmp .lt 13, 3) := by decide +kernel
theorem dX7_richest_9 : decode cX7_richest 9 = .ok (.new 53, 3) := by decide +kernel
theorem dX7_richest_12 : decode cX7_richest 12 = .ok (.dup, 1) := by decide +kernel
theorem dX7_richest_13 : decode cX7_richest 13 = .ok (.ldc 218, 2) := by decide +kernel
theorem dX7_richest_15 : decode cX7_richest 15 = .ok (.invokespecial 57, 3) := by decide +kernel
theorem dX7_richest_18 : decode cX7_richest 18 = .ok (.athrow, 1) := by decide +kernel
theorem dX7_richest_19 : decode cX7_richest 19 = .ok (.iconst 0, 1) := by decide +kernel
theorem dX7_richest_20 : decode cX7_richest 20 = .ok (.istore_n 2, 1) := by decide +kernel
theorem dX7_richest_21 : decode cX7_richest 21 = .ok (.iconst (-1), 1) := by decide +kernel
theorem dX7_richest_22 : decode cX7_richest 22 = .ok (.istore_n 3, 1) := by decide +kernel
theorem dX7_richest_23 : decode cX7_richest 23 = .ok (.iconst 0, 1) := by decide +kernel
theorem dX7_richest_24 : decode cX7_richest 24 = .ok (.istore 4, 2) := by decide +kernel
theorem dX7_richest_26 : decode cX7_richest 26 = .ok (.iload 4, 2) := by decide +kernel
theorem dX7_richest_28 : decode cX7_richest 28 = .ok (.iconst 4, 1) := by decide +kernel
theorem dX7_richest_29 : decode cX7_richest 29 = .ok (.if_icmp .ge 94, 3) := by decide +kernel
theorem dX7_richest_32 : decode cX7_richest 32 = .ok (.iconst 0, 1) := by decide +kernel
theorem dX7_richest_33 : decode cX7_richest 33 = .ok (.istore 5, 2) := by decide +kernel
theorem dX7_richest_35 : decode cX7_richest 35 = .ok (.iload 5, 2) := by decide +kernel
theorem dX7_richest_37 : decode cX7_richest 37 = .ok (.iconst 4, 1) := by decide +kernel
theorem dX7_richest_38 : decode cX7_richest 38 = .ok (.if_icmp .ge 79, 3) := by decide +kernel
theorem dX7_richest_41 : decode cX7_richest 41 = .ok (.aload_n 0, 1) := by decide +kernel
theorem dX7_richest_42 : decode cX7_richest 42 = .ok (.getfield 41, 3) := by decide +kernel
theorem dX7_richest_45 : decode cX7_richest 45 = .ok (.aload_n 0, 1) := by decide +kernel
theorem dX7_richest_46 : decode cX7_richest 46 = .ok (.getfield 10, 3) := by decide +kernel
theorem dX7_richest_49 : decode cX7_richest 49 = .ok (.invokevirtual 149, 3) := by decide +kernel
theorem dX7_richest_52 : decode cX7_richest 52 = .ok (.aload_n 0, 1) := by decide +kernel
theorem dX7_richest_53 : decode cX7_richest 53 = .ok (.getfield 41, 3) := by decide +kernel
theorem dX7_richest_56 : decode cX7_richest 56 = .ok (.getfield 64, 3) := by decide +kernel
theorem dX7_richest_59 : decode cX7_richest 59 = .ok (.iload_n 1, 1) := by decide +kernel
theorem dX7_richest_60 : decode cX7_richest 60 = .ok (.iload 4, 2) := by decide +kernel
theorem dX7_richest_62 : decode cX7_richest 62 = .ok (.iload 5, 2) := by decide +kernel
theorem dX7_richest_64 : decode cX7_richest 64 = .ok (.invokestatic 60, 3) := by decide +kernel
theorem dX7_richest_67 : decode cX7_richest 67 = .ok (.invokevirtual 86, 3) := by decide +kernel
theorem dX7_richest_70 : decode cX7_richest 70 = .ok (.aload_n 0, 1) := by decide +kernel
theorem dX7_richest_71 : decode cX7_richest 71 = .ok (.getfield 44, 3) := by decide +kernel
theorem dX7_richest_74 : decode cX7_richest 74 = .ok (.aload_n 0, 1) := by decide +kernel
theorem dX7_richest_75 : decode cX7_richest 75 = .ok (.getfield 41, 3) := by decide +kernel
theorem dX7_richest_78 : decode cX7_richest 78 = .ok (.invokevirtual 90, 3) := by decide +kernel
theorem dX7_richest_81 : decode cX7_richest 81 = .ok (.aload_n 0, 1) := by decide +kernel
theorem dX7_richest_82 : decode cX7_richest 82 = .ok (.getfield 44, 3) := by decide +kernel
theorem dX7_richest_85 : decode cX7_richest 85 = .ok (.getfield 121, 3) := by decide +kernel
theorem dX7_richest_88 : decode cX7_richest 88 = .ok (.invokevirtual 202, 3) := by decide +kernel
theorem dX7_richest_91 : decode cX7_richest 91 = .ok (.istore 6, 2) := by decide +kernel
theorem dX7_richest_93 : decode cX7_richest 93 = .ok (.iload 6, 2) := by decide +kernel
theorem dX7_richest_95 : decode cX7_richest 95 = .ok (.iload_n 3, 1) := by decide +kernel
theorem dX7_richest_96 : decode cX7_richest 96 = .ok (.if_icmp .le 15, 3) := by decide +kernel
theorem dX7_richest_99 : decode cX7_richest 99 = .ok (.iload 6, 2) := by decide +kernel
theorem dX7_richest_101 : decode cX7_richest 101 = .ok (.istore_n 3, 1) := by decide +kernel
theorem dX7_richest_102 : decode cX7_richest 102 = .ok (.iconst 0, 1) := by decide +kernel
theorem dX7_richest_103 : decode cX7_richest 103 = .ok (.iload 4, 2) := by decide +kernel
theorem dX7_richest_105 : decode cX7_richest 105 = .ok (.iload 5, 2) := by decide +kernel
theorem dX7_richest_107 : decode cX7_richest 107 = .ok (.invokestatic 60, 3) := by decide +kernel
theorem dX7_richest_110 : decode cX7_richest 110 = .ok (.istore_n 2, 1) := by decide +kernel
theorem dX7_richest_111 : decode cX7_richest 111 = .ok (.iinc 5 1, 3) := by decide +kernel
theorem dX7_richest_114 : decode cX7_richest 114 = .ok (.goto (-79), 3) := by decide +kernel
theorem dX7_richest_117 : decode cX7_richest 117 = .ok (.iinc 4 1, 3) := by decide +kernel
theorem dX7_richest_120 : decode cX7_richest 120 = .ok (.goto (-94), 3) := by decide +kernel
theorem dX7_richest_123 : decode cX7_richest 123 = .ok (.iload_n 2, 1) := by decide +kernel
theorem dX7_richest_124 : decode cX7_richest 124 = .ok (.ireturn, 1) := by decide +kernel
theorem dX7_byRules_0 : decode cX7_byRules 0 = .ok (.aload_n 0, 1) := by decide +kernel
theorem dX7_byRules_1 : decode cX7_byRules 1 = .ok (.getfield 37, 3) := by decide +kernel
theorem dX7_byRules_4 : decode cX7_byRules 4 = .ok (.getfield 121, 3) := by decide +kernel
theorem dX7_byRules_7 : decode cX7_byRules 7 = .ok (.invokevirtual 202, 3) := by decide +kernel
theorem dX7_byRules_10 : decode cX7_byRules 10 = .ok (.istore_n 1, 1) := by decide +kernel
theorem dX7_byRules_11 : decode cX7_byRules 11 = .ok (.iload_n 1, 1) := by decide +kernel
theorem dX7_byRules_12 : decode cX7_byRules 12 = .ok (.ifCond .ne 5, 3) := by decide +kernel
theorem dX7_byRules_15 : decode cX7_byRules 15 = .ok (.dconst 0, 1) := by decide +kernel
theorem dX7_byRules_16 : decode cX7_byRules 16 = .ok (.dreturn, 1) := by decide +kernel
theorem dX7_byRules_17 : decode cX7_byRules 17 = .ok (.iload_n 1, 1) := by decide +kernel
theorem dX7_byRules_18 : decode cX7_byRules 18 = .ok (.aload_n 0, 1) := by decide +kernel
theorem dX7_byRules_19 : decode cX7_byRules 19 = .ok (.getfield 10, 3) := by decide +kernel
theorem dX7_byRules_22 : decode cX7_byRules 22 = .ok (.getfield 64, 3) := by decide +kernel
theorem dX7_byRules_25 : decode cX7_byRules 25 = .ok (.invokevirtual 202, 3) := by decide +kernel
theorem dX7_byRules_28 : decode cX7_byRules 28 = .ok (.isub, 1) := by decide +kernel
theorem dX7_byRules_29 : decode cX7_byRules 29 = .ok (.i2d, 1) := by decide +kernel
theorem dX7_byRules_30 : decode cX7_byRules 30 = .ok (.iload_n 1, 1) := by decide +kernel
theorem dX7_byRules_31 : decode cX7_byRules 31 = .ok (.i2d, 1) := by decide +kernel
theorem dX7_byRules_32 : decode cX7_byRules 32 = .ok (.ddiv, 1) := by decide +kernel
theorem dX7_byRules_33 : decode cX7_byRules 33 = .ok (.dreturn, 1) := by decide +kernel
theorem dX7_digest_0 : decode cX7_digest 0 = .ok (.ldc2_w 220, 3) := by decide +kernel
theorem dX7_digest_3 : decode cX7_digest 3 = .ok (.lstore_n 1, 1) := by decide +kernel
theorem dX7_digest_4 : decode cX7_digest 4 = .ok (.iconst 0, 1) := by decide +kernel
theorem dX7_digest_5 : decode cX7_digest 5 = .ok (.istore_n 3, 1) := by decide +kernel
theorem dX7_digest_6 : decode cX7_digest 6 = .ok (.iload_n 3, 1) := by decide +kernel
theorem dX7_digest_7 : decode cX7_digest 7 = .ok (.bipush 7, 2) := by decide +kernel
theorem dX7_digest_9 : decode cX7_digest 9 = .ok (.if_icmp .gt 22, 3) := by decide +kernel
theorem dX7_digest_12 : decode cX7_digest 12 = .ok (.ldc2_w 222, 3) := by decide +kernel
theorem dX7_digest_15 : decode cX7_digest 15 = .ok (.lload_n 1, 1) := by decide +kernel
theorem dX7_digest_16 : decode cX7_digest 16 = .ok (.lmul, 1) := by decide +kernel
theorem dX7_digest_17 : decode cX7_digest 17 = .ok (.aload_n 0, 1) := by decide +kernel
theorem dX7_digest_18 : decode cX7_digest 18 = .ok (.iload_n 3, 1) := by decide +kernel
theorem dX7_digest_19 : decode cX7_digest 19 = .ok (.invokevirtual 224, 3) := by decide +kernel
theorem dX7_digest_22 : decode cX7_digest 22 = .ok (.i2l, 1) := by decide +kernel
theorem dX7_digest_23 : decode cX7_digest 23 = .ok (.ladd, 1) := by decide +kernel
theorem dX7_digest_24 : decode cX7_digest 24 = .ok (.lstore_n 1, 1) := by decide +kernel
theorem dX7_digest_25 : decode cX7_digest 25 = .ok (.iinc 3 1, 3) := by decide +kernel
theorem dX7_digest_28 : decode cX7_digest 28 = .ok (.goto (-22), 3) := by decide +kernel
theorem dX7_digest_31 : decode cX7_digest 31 = .ok (.iconst 0, 1) := by decide +kernel
theorem dX7_digest_32 : decode cX7_digest 32 = .ok (.istore_n 3, 1) := by decide +kernel
theorem dX7_digest_33 : decode cX7_digest 33 = .ok (.iload_n 3, 1) := by decide +kernel
theorem dX7_digest_34 : decode cX7_digest 34 = .ok (.aload_n 0, 1) := by decide +kernel
theorem dX7_digest_35 : decode cX7_digest 35 = .ok (.getfield 10, 3) := by decide +kernel
theorem dX7_digest_38 : decode cX7_digest 38 = .ok (.getfield 64, 3) := by decide +kernel
theorem dX7_digest_41 : decode cX7_digest 41 = .ok (.invokevirtual 74, 3) := by decide +kernel
theorem dX7_digest_44 : decode cX7_digest 44 = .ok (.if_icmp .ge 35, 3) := by decide +kernel
theorem dX7_digest_47 : decode cX7_digest 47 = .ok (.ldc2_w 222, 3) := by decide +kernel
theorem dX7_digest_50 : decode cX7_digest 50 = .ok (.lload_n 1, 1) := by decide +kernel
theorem dX7_digest_51 : decode cX7_digest 51 = .ok (.lmul, 1) := by decide +kernel
theorem dX7_digest_52 : decode cX7_digest 52 = .ok (.aload_n 0, 1) := by decide +kernel
theorem dX7_digest_53 : decode cX7_digest 53 = .ok (.iload_n 3, 1) := by decide +kernel
theorem dX7_digest_54 : decode cX7_digest 54 = .ok (.invokevirtual 227, 3) := by decide +kernel
theorem dX7_digest_57 : decode cX7_digest 57 = .ok (.i2l, 1) := by decide +kernel
theorem dX7_digest_58 : decode cX7_digest 58 = .ok (.ladd, 1) := by decide +kernel
theorem dX7_digest_59 : decode cX7_digest 59 = .ok (.lstore_n 1, 1) := by decide +kernel
theorem dX7_digest_60 : decode cX7_digest 60 = .ok (.ldc2_w 222, 3) := by decide +kernel
theorem dX7_digest_63 : decode cX7_digest 63 = .ok (.lload_n 1, 1) := by decide +kernel
theorem dX7_digest_64 : decode cX7_digest 64 = .ok (.lmul, 1) := by decide +kernel
theorem dX7_digest_65 : decode cX7_digest 65 = .ok (.aload_n 0, 1) := by decide +kernel
theorem dX7_digest_66 : decode cX7_digest 66 = .ok (.iload_n 3, 1) := by decide +kernel
theorem dX7_digest_67 : decode cX7_digest 67 = .ok (.invokevirtual 229, 3) := by decide +kernel
theorem dX7_digest_70 : decode cX7_digest 70 = .ok (.i2l, 1) := by decide +kernel
theorem dX7_digest_71 : decode cX7_digest 71 = .ok (.ladd, 1) := by decide +kernel
theorem dX7_digest_72 : decode cX7_digest 72 = .ok (.lstore_n 1, 1) := by decide +kernel
theorem dX7_digest_73 : decode cX7_digest 73 = .ok (.iinc 3 1, 3) := by decide +kernel
theorem dX7_digest_76 : decode cX7_digest 76 = .ok (.goto (-43), 3) := by decide +kernel
theorem dX7_digest_79 : decode cX7_digest 79 = .ok (.iconst 0, 1) := by decide +kernel
theorem dX7_digest_80 : decode cX7_digest 80 = .ok (.istore_n 3, 1) := by decide +kernel
theorem dX7_digest_81 : decode cX7_digest 81 = .ok (.iload_n 3, 1) := by decide +kernel
theorem dX7_digest_82 : decode cX7_digest 82 = .ok (.aload_n 0, 1) := by decide +kernel
theorem dX7_digest_83 : decode cX7_digest 83 = .ok (.getfield 10, 3) := by decide +kernel
theorem dX7_digest_86 : decode cX7_digest 86 = .ok (.invokevirtual 102, 3) := by decide +kernel
theorem dX7_digest_89 : decode cX7_digest 89 = .ok (.if_icmp .ge 69, 3) := by decide +kernel
theorem dX7_digest_92 : decode cX7_digest 92 = .ok (.iconst 0, 1) := by decide +kernel
theorem dX7_digest_93 : decode cX7_digest 93 = .ok (.istore 4, 2) := by decide +kernel
theorem dX7_digest_95 : decode cX7_digest 95 = .ok (.iload 4, 2) := by decide +kernel
theorem dX7_digest_97 : decode cX7_digest 97 = .ok (.iconst 2, 1) := by decide +kernel
theorem dX7_digest_98 : decode cX7_digest 98 = .ok (.if_icmp .gt 24, 3) := by decide +kernel
theorem dX7_digest_101 : decode cX7_digest 101 = .ok (.ldc2_w 222, 3) := by decide +kernel
theorem dX7_digest_104 : decode cX7_digest 104 = .ok (.lload_n 1, 1) := by decide +kernel
theorem dX7_digest_105 : decode cX7_digest 105 = .ok (.lmul, 1) := by decide +kernel
theorem dX7_digest_106 : decode cX7_digest 106 = .ok (.aload_n 0, 1) := by decide +kernel
theorem dX7_digest_107 : decode cX7_digest 107 = .ok (.iload_n 3, 1) := by decide +kernel
theorem dX7_digest_108 : decode cX7_digest 108 = .ok (.iload 4, 2) := by decide +kernel
theorem dX7_digest_110 : decode cX7_digest 110 = .ok (.invokevirtual 232, 3) := by decide +kernel
theorem dX7_digest_113 : decode cX7_digest 113 = .ok (.i2l, 1) := by decide +kernel
theorem dX7_digest_114 : decode cX7_digest 114 = .ok (.ladd, 1) := by decide +kernel
theorem dX7_digest_115 : decode cX7_digest 115 = .ok (.lstore_n 1, 1) := by decide +kernel
theorem dX7_digest_116 : decode cX7_digest 116 = .ok (.iinc 4 1, 3) := by decide +kernel
theorem dX7_digest_119 : decode cX7_digest 119 = .ok (.goto (-24), 3) := by decide +kernel
theorem dX7_digest_122 : decode cX7_digest 122 = .ok (.iconst 0, 1) := by decide +kernel
theorem dX7_digest_123 : decode cX7_digest 123 = .ok (.istore 4, 2) := by decide +kernel
theorem dX7_digest_125 : decode cX7_digest 125 = .ok (.iload 4, 2) := by decide +kernel
theorem dX7_digest_127 : decode cX7_digest 127 = .ok (.iconst 2, 1) := by decide +kernel
theorem dX7_digest_128 : decode cX7_digest 128 = .ok (.if_icmp .gt 24, 3) := by decide +kernel
theorem dX7_digest_131 : decode cX7_digest 131 = .ok (.ldc2_w 222, 3) := by decide +kernel
theorem dX7_digest_134 : decode cX7_digest 134 = .ok (.lload_n 1, 1) := by decide +kernel
theorem dX7_digest_135 : decode cX7_digest 135 = .ok (.lmul, 1) := by decide +kernel
theorem dX7_digest_136 : decode cX7_digest 136 = .ok (.aload_n 0, 1) := by decide +kernel
theorem dX7_digest_137 : decode cX7_digest 137 = .ok (.iload_n 3, 1) := by decide +kernel
theorem dX7_digest_138 : decode cX7_digest 138 = .ok (.iload 4, 2) := by decide +kernel
theorem dX7_digest_140 : decode cX7_digest 140 = .ok (.invokevirtual 235, 3) := by decide +kernel
theorem dX7_digest_143 : decode cX7_digest 143 = .ok (.i2l, 1) := by decide +kernel
theorem dX7_digest_144 : decode cX7_digest 144 = .ok (.ladd, 1) := by decide +kernel
theorem dX7_digest_145 : decode cX7_digest 145 = .ok (.lstore_n 1, 1) := by decide +kernel
theorem dX7_digest_146 : decode cX7_digest 146 = .ok (.iinc 4 1, 3) := by decide +kernel
theorem dX7_digest_149 : decode cX7_digest 149 = .ok (.goto (-24), 3) := by decide +kernel
theorem dX7_digest_152 : decode cX7_digest 152 = .ok (.iinc 3 1, 3) := by decide +kernel
theorem dX7_digest_155 : decode cX7_digest 155 = .ok (.goto (-74), 3) := by decide +kernel
theorem dX7_digest_158 : decode cX7_digest 158 = .ok (.aload_n 0, 1) := by decide +kernel
theorem dX7_digest_159 : decode cX7_digest 159 = .ok (.iconst 2, 1) := by decide +kernel
theorem dX7_digest_160 : decode cX7_digest 160 = .ok (.invokevirtual 224, 3) := by decide +kernel
theorem dX7_digest_163 : decode cX7_digest 163 = .ok (.istore_n 3, 1) := by decide +kernel
theorem dX7_digest_164 : decode cX7_digest 164 = .ok (.iconst 0, 1) := by decide +kernel
theorem dX7_digest_165 : decode cX7_digest 165 = .ok (.istore 4, 2) := by decide +kernel
theorem dX7_digest_167 : decode cX7_digest 167 = .ok (.iload 4, 2) := by decide +kernel
theorem dX7_digest_169 : decode cX7_digest 169 = .ok (.iload_n 3, 1) := by decide +kernel
theorem dX7_digest_170 : decode cX7_digest 170 = .ok (.if_icmp .ge 40, 3) := by decide +kernel
theorem dX7_digest_173 : decode cX7_digest 173 = .ok (.iconst 0, 1) := by decide +kernel
theorem dX7_digest_174 : decode cX7_digest 174 = .ok (.istore 5, 2) := by decide +kernel
theorem dX7_digest_176 : decode cX7_digest 176 = .ok (.iload 5, 2) := by decide +kernel
theorem dX7_digest_178 : decode cX7_digest 178 = .ok (.iconst 3, 1) := by decide +kernel
theorem dX7_digest_179 : decode cX7_digest 179 = .ok (.if_icmp .gt 25, 3) := by decide +kernel
theorem dX7_digest_182 : decode cX7_digest 182 = .ok (.ldc2_w 222, 3) := by decide +kernel
theorem dX7_digest_185 : decode cX7_digest 185 = .ok (.lload_n 1, 1) := by decide +kernel
theorem dX7_digest_186 : decode cX7_digest 186 = .ok (.lmul, 1) := by decide +kernel
theorem dX7_digest_187 : decode cX7_digest 187 = .ok (.aload_n 0, 1) := by decide +kernel
theorem dX7_digest_188 : decode cX7_digest 188 = .ok (.iload 4, 2) := by decide +kernel
theorem dX7_digest_190 : decode cX7_digest 190 = .ok (.iload 5, 2) := by decide +kernel
theorem dX7_digest_192 : decode cX7_digest 192 = .ok (.invokevirtual 238, 3) := by decide +kernel
theorem dX7_digest_195 : decode cX7_digest 195 = .ok (.i2l, 1) := by decide +kernel
theorem dX7_digest_196 : decode cX7_digest 196 = .ok (.ladd, 1) := by decide +kernel
theorem dX7_digest_197 : decode cX7_digest 197 = .ok (.lstore_n 1, 1) := by decide +kernel
theorem dX7_digest_198 : decode cX7_digest 198 = .ok (.iinc 5 1, 3) := by decide +kernel
theorem dX7_digest_201 : decode cX7_digest 201 = .ok (.goto (-25), 3) := by decide +kernel
theorem dX7_digest_204 : decode cX7_digest 204 = .ok (.iinc 4 1, 3) := by decide +kernel
theorem dX7_digest_207 : decode cX7_digest 207 = .ok (.goto (-40), 3) := by decide +kernel
theorem dX7_digest_210 : decode cX7_digest 210 = .ok (.iconst 0, 1) := by decide +kernel
theorem dX7_digest_211 : decode cX7_digest 211 = .ok (.istore 4, 2) := by decide +kernel
theorem dX7_digest_213 : decode cX7_digest 213 = .ok (.iload 4, 2) := by decide +kernel
theorem dX7_digest_215 : decode cX7_digest 215 = .ok (.iconst 3, 1) := by decide +kernel
theorem dX7_digest_216 : decode cX7_digest 216 = .ok (.if_icmp .gt 23, 3) := by decide +kernel
theorem dX7_digest_219 : decode cX7_digest 219 = .ok (.ldc2_w 222, 3) := by decide +kernel
theorem dX7_digest_222 : decode cX7_digest 222 = .ok (.lload_n 1, 1) := by decide +kernel
theorem dX7_digest_223 : decode cX7_digest 223 = .ok (.lmul, 1) := by decide +kernel
theorem dX7_digest_224 : decode cX7_digest 224 = .ok (.aload_n 0, 1) := by decide +kernel
theorem dX7_digest_225 : decode cX7_digest 225 = .ok (.iload 4, 2) := by decide +kernel
theorem dX7_digest_227 : decode cX7_digest 227 = .ok (.invokevirtual 241, 3) := by decide +kernel
theorem dX7_digest_230 : decode cX7_digest 230 = .ok (.i2l, 1) := by decide +kernel
theorem dX7_digest_231 : decode cX7_digest 231 = .ok (.ladd, 1) := by decide +kernel
theorem dX7_digest_232 : decode cX7_digest 232 = .ok (.lstore_n 1, 1) := by decide +kernel
theorem dX7_digest_233 : decode cX7_digest 233 = .ok (.iinc 4 1, 3) := by decide +kernel
theorem dX7_digest_236 : decode cX7_digest 236 = .ok (.goto (-23), 3) := by decide +kernel
theorem dX7_digest_239 : decode cX7_digest 239 = .ok (.iconst 0, 1) := by decide +kernel
theorem dX7_digest_240 : decode cX7_digest 240 = .ok (.istore 4, 2) := by decide +kernel
theorem dX7_digest_242 : decode cX7_digest 242 = .ok (.iload 4, 2) := by decide +kernel
theorem dX7_digest_244 : decode cX7_digest 244 = .ok (.iconst 4, 1) := by decide +kernel
theorem dX7_digest_245 : decode cX7_digest 245 = .ok (.if_icmp .ge 41, 3) := by decide +kernel
theorem dX7_digest_248 : decode cX7_digest 248 = .ok (.ldc2_w 222, 3) := by decide +kernel
theorem dX7_digest_251 : decode cX7_digest 251 = .ok (.lload_n 1, 1) := by decide +kernel
theorem dX7_digest_252 : decode cX7_digest 252 = .ok (.lmul, 1) := by decide +kernel
theorem dX7_digest_253 : decode cX7_digest 253 = .ok (.aload_n 0, 1) := by decide +kernel
theorem dX7_digest_254 : decode cX7_digest 254 = .ok (.iload 4, 2) := by decide +kernel
theorem dX7_digest_256 : decode cX7_digest 256 = .ok (.iconst 4, 1) := by decide +kernel
theorem dX7_digest_257 : decode cX7_digest 257 = .ok (.iconst 4, 1) := by decide +kernel
theorem dX7_digest_258 : decode cX7_digest 258 = .ok (.invokevirtual 244, 3) := by decide +kernel
theorem dX7_digest_261 : decode cX7_digest 261 = .ok (.i2l, 1) := by decide +kernel
theorem dX7_digest_262 : decode cX7_digest 262 = .ok (.ladd, 1) := by decide +kernel
theorem dX7_digest_263 : decode cX7_digest 263 = .ok (.lstore_n 1, 1) := by decide +kernel
theorem dX7_digest_264 : decode cX7_digest 264 = .ok (.ldc2_w 222, 3) := by decide +kernel
theorem dX7_digest_267 : decode cX7_digest 267 = .ok (.lload_n 1, 1) := by decide +kernel
theorem dX7_digest_268 : decode cX7_digest 268 = .ok (.lmul, 1) := by decide +kernel
theorem dX7_digest_269 : decode cX7_digest 269 = .ok (.aload_n 0, 1) := by decide +kernel
theorem dX7_digest_270 : decode cX7_digest 270 = .ok (.iload 4, 2) := by decide +kernel
theorem dX7_digest_272 : decode cX7_digest 272 = .ok (.iconst 4, 1) := by decide +kernel
theorem dX7_digest_273 : decode cX7_digest 273 = .ok (.iconst 5, 1) := by decide +kernel
theorem dX7_digest_274 : decode cX7_digest 274 = .ok (.invokevirtual 247, 3) := by decide +kernel
theorem dX7_digest_277 : decode cX7_digest 277 = .ok (.i2l, 1) := by decide +kernel
theorem dX7_digest_278 : decode cX7_digest 278 = .ok (.ladd, 1) := by decide +kernel
theorem dX7_digest_279 : decode cX7_digest 279 = .ok (.lstore_n 1, 1) := by decide +kernel
theorem dX7_digest_280 : decode cX7_digest 280 = .ok (.iinc 4 1, 3) := by decide +kernel
theorem dX7_digest_283 : decode cX7_digest 283 = .ok (.goto (-41), 3) := by decide +kernel
theorem dX7_digest_286 : decode cX7_digest 286 = .ok (.ldc2_w 222, 3) := by decide +kernel
theorem dX7_digest_289 : decode cX7_digest 289 = .ok (.lload_n 1, 1) := by decide +kernel
theorem dX7_digest_290 : decode cX7_digest 290 = .ok (.lmul, 1) := by decide +kernel
theorem dX7_digest_291 : decode cX7_digest 291 = .ok (.aload_n 0, 1) := by decide +kernel
theorem dX7_digest_292 : decode cX7_digest 292 = .ok (.iconst 0, 1) := by decide +kernel
theorem dX7_digest_293 : decode cX7_digest 293 = .ok (.invokevirtual 250, 3) := by decide +kernel
theorem dX7_digest_296 : decode cX7_digest 296 = .ok (.i2l, 1) := by decide +kernel
theorem dX7_digest_297 : decode cX7_digest 297 = .ok (.ladd, 1) := by decide +kernel
theorem dX7_digest_298 : decode cX7_digest 298 = .ok (.lstore_n 1, 1) := by decide +kernel
theorem dX7_digest_299 : decode cX7_digest 299 = .ok (.ldc2_w 222, 3) := by decide +kernel
theorem dX7_digest_302 : decode cX7_digest 302 = .ok (.lload_n 1, 1) := by decide +kernel
theorem dX7_digest_303 : decode cX7_digest 303 = .ok (.lmul, 1) := by decide +kernel
theorem dX7_digest_304 : decode cX7_digest 304 = .ok (.aload_n 0, 1) := by decide +kernel
theorem dX7_digest_305 : decode cX7_digest 305 = .ok (.invokevirtual 253, 3) := by decide +kernel
theorem dX7_digest_308 : decode cX7_digest 308 = .ok (.invokestatic 257, 3) := by decide +kernel
theorem dX7_digest_311 : decode cX7_digest 311 = .ok (.ladd, 1) := by decide +kernel
theorem dX7_digest_312 : decode cX7_digest 312 = .ok (.lstore_n 1, 1) := by decide +kernel
theorem dX7_digest_313 : decode cX7_digest 313 = .ok (.ldc2_w 222, 3) := by decide +kernel
theorem dX7_digest_316 : decode cX7_digest 316 = .ok (.lload_n 1, 1) := by decide +kernel
theorem dX7_digest_317 : decode cX7_digest 317 = .ok (.lmul, 1) := by decide +kernel
theorem dX7_digest_318 : decode cX7_digest 318 = .ok (.aload_n 0, 1) := by decide +kernel
theorem dX7_digest_319 : decode cX7_digest 319 = .ok (.getfield 23, 3) := by decide +kernel
theorem dX7_digest_322 : decode cX7_digest 322 = .ok (.invokevirtual 132, 3) := by decide +kernel
theorem dX7_digest_325 : decode cX7_digest 325 = .ok (.i2l, 1) := by decide +kernel
theorem dX7_digest_326 : decode cX7_digest 326 = .ok (.ladd, 1) := by decide +kernel
theorem dX7_digest_327 : decode cX7_digest 327 = .ok (.lstore_n 1, 1) := by decide +kernel
theorem dX7_digest_328 : decode cX7_digest 328 = .ok (.iconst 0, 1) := by decide +kernel
theorem dX7_digest_329 : decode cX7_digest 329 = .ok (.istore 4, 2) := by decide +kernel
theorem dX7_digest_331 : decode cX7_digest 331 = .ok (.iload 4, 2) := by decide +kernel
theorem dX7_digest_333 : decode cX7_digest 333 = .ok (.aload_n 0, 1) := by decide +kernel
theorem dX7_digest_334 : decode cX7_digest 334 = .ok (.getfield 23, 3) := by decide +kernel
theorem dX7_digest_337 : decode cX7_digest 337 = .ok (.invokevirtual 132, 3) := by decide +kernel
theorem dX7_digest_340 : decode cX7_digest 340 = .ok (.if_icmp .ge 26, 3) := by decide +kernel
theorem dX7_digest_343 : decode cX7_digest 343 = .ok (.ldc2_w 222, 3) := by decide +kernel
theorem dX7_digest_346 : decode cX7_digest 346 = .ok (.lload_n 1, 1) := by decide +kernel
theorem dX7_digest_347 : decode cX7_digest 347 = .ok (.lmul, 1) := by decide +kernel
theorem dX7_digest_348 : decode cX7_digest 348 = .ok (.aload_n 0, 1) := by decide +kernel
theorem dX7_digest_349 : decode cX7_digest 349 = .ok (.getfield 23, 3) := by decide +kernel
theorem dX7_digest_352 : decode cX7_digest 352 = .ok (.iload 4, 2) := by decide +kernel
theorem dX7_digest_354 : decode cX7_digest 354 = .ok (.invokevirtual 261, 3) := by decide +kernel
theorem dX7_digest_357 : decode cX7_digest 357 = .ok (.i2l, 1) := by decide +kernel
theorem dX7_digest_358 : decode cX7_digest 358 = .ok (.ladd, 1) := by decide +kernel
theorem dX7_digest_359 : decode cX7_digest 359 = .ok (.lstore_n 1, 1) := by decide +kernel
theorem dX7_digest_360 : decode cX7_digest 360 = .ok (.iinc 4 1, 3) := by decide +kernel
theorem dX7_digest_363 : decode cX7_digest 363 = .ok (.goto (-32), 3) := by decide +kernel
theorem dX7_digest_366 : decode cX7_digest 366 = .ok (.lload_n 1, 1) := by decide +kernel
theorem dX7_digest_367 : decode cX7_digest 367 = .ok (.lreturn, 1) := by decide +kernel
theorem dX7_addedRule_0 : decode cX7_addedRule 0 = .ok (.aload_n 0, 1) := by decide +kernel
theorem dX7_addedRule_1 : decode cX7_addedRule 1 = .ok (.invokevirtual 83, 3) := by decide +kernel
theorem dX7_addedRule_4 : decode cX7_addedRule 4 = .ok (.aload_n 0, 1) := by decide +kernel
theorem dX7_addedRule_5 : decode cX7_addedRule 5 = .ok (.getfield 10, 3) := by decide +kernel
theorem dX7_addedRule_8 : decode cX7_addedRule 8 = .ok (.iload_n 1, 1) := by decide +kernel
theorem dX7_addedRule_9 : decode cX7_addedRule 9 = .ok (.iload_n 2, 1) := by decide +kernel
theorem dX7_addedRule_10 : decode cX7_addedRule 10 = .ok (.iload_n 3, 1) := by decide +kernel
theorem dX7_addedRule_11 : decode cX7_addedRule 11 = .ok (.invokevirtual 262, 3) := by decide +kernel
theorem dX7_addedRule_14 : decode cX7_addedRule 14 = .ok (.pop, 1) := by decide +kernel
theorem dX7_addedRule_15 : decode cX7_addedRule 15 = .ok (.aload_n 0, 1) := by decide +kernel
theorem dX7_addedRule_16 : decode cX7_addedRule 16 = .ok (.getfield 37, 3) := by decide +kernel
theorem dX7_addedRule_19 : decode cX7_addedRule 19 = .ok (.aload_n 0, 1) := by decide +kernel
theorem dX7_addedRule_20 : decode cX7_addedRule 20 = .ok (.getfield 10, 3) := by decide +kernel
theorem dX7_addedRule_23 : decode cX7_addedRule 23 = .ok (.invokevirtual 90, 3) := by decide +kernel
theorem dX7_addedRule_26 : decode cX7_addedRule 26 = .ok (.aload_n 0, 1) := by decide +kernel
theorem dX7_addedRule_27 : decode cX7_addedRule 27 = .ok (.getfield 10, 3) := by decide +kernel
theorem dX7_addedRule_30 : decode cX7_addedRule 30 = .ok (.invokevirtual 102, 3) := by decide +kernel
theorem dX7_addedRule_33 : decode cX7_addedRule 33 = .ok (.iconst 1, 1) := by decide +kernel
theorem dX7_addedRule_34 : decode cX7_addedRule 34 = .ok (.isub, 1) := by decide +kernel
theorem dX7_addedRule_35 : decode cX7_addedRule 35 = .ok (.ireturn, 1) := by decide +kernel
theorem dX7_save_0 : decode cX7_save 0 = .ok (.aload_n 0, 1) := by decide +kernel
theorem dX7_save_1 : decode cX7_save 1 = .ok (.getfield 157, 3) := by decide +kernel
theorem dX7_save_4 : decode cX7_save 4 = .ok (.aload_n 0, 1) := by decide +kernel
theorem dX7_save_5 : decode cX7_save 5 = .ok (.getfield 16, 3) := by decide +kernel
theorem dX7_save_8 : decode cX7_save 8 = .ok (.arraylength, 1) := by decide +kernel
theorem dX7_save_9 : decode cX7_save 9 = .ok (.if_icmp .lt 7, 3) := by decide +kernel
theorem dX7_save_12 : decode cX7_save 12 = .ok (.aload_n 0, 1) := by decide +kernel
theorem dX7_save_13 : decode cX7_save 13 = .ok (.invokevirtual 265, 3) := by decide +kernel
theorem dX7_save_16 : decode cX7_save 16 = .ok (.aload_n 0, 1) := by decide +kernel
theorem dX7_save_17 : decode cX7_save 17 = .ok (.getfield 157, 3) := by decide +kernel
theorem dX7_save_20 : decode cX7_save 20 = .ok (.ifCond .lt 41, 3) := by decide +kernel
theorem dX7_save_23 : decode cX7_save 23 = .ok (.aload_n 0, 1) := by decide +kernel
theorem dX7_save_24 : decode cX7_save 24 = .ok (.getfield 157, 3) := by decide +kernel
theorem dX7_save_27 : decode cX7_save 27 = .ok (.aload_n 0, 1) := by decide +kernel
theorem dX7_save_28 : decode cX7_save 28 = .ok (.getfield 16, 3) := by decide +kernel
theorem dX7_save_31 : decode cX7_save 31 = .ok (.arraylength, 1) := by decide +kernel
theorem dX7_save_32 : decode cX7_save 32 = .ok (.if_icmp .ge 29, 3) := by decide +kernel
theorem dX7_save_35 : decode cX7_save 35 = .ok (.aload_n 0, 1) := by decide +kernel
theorem dX7_save_36 : decode cX7_save 36 = .ok (.getfield 16, 3) := by decide +kernel
theorem dX7_save_39 : decode cX7_save 39 = .ok (.aload_n 0, 1) := by decide +kernel
theorem dX7_save_40 : decode cX7_save 40 = .ok (.getfield 157, 3) := by decide +kernel
theorem dX7_save_43 : decode cX7_save 43 = .ok (.aaload, 1) := by decide +kernel
theorem dX7_save_44 : decode cX7_save 44 = .ok (.aload_n 0, 1) := by decide +kernel
theorem dX7_save_45 : decode cX7_save 45 = .ok (.getfield 10, 3) := by decide +kernel
theorem dX7_save_48 : decode cX7_save 48 = .ok (.invokevirtual 149, 3) := by decide +kernel
theorem dX7_save_51 : decode cX7_save 51 = .ok (.aload_n 0, 1) := by decide +kernel
theorem dX7_save_52 : decode cX7_save 52 = .ok (.dup, 1) := by decide +kernel
theorem dX7_save_53 : decode cX7_save 53 = .ok (.getfield 157, 3) := by decide +kernel
theorem dX7_save_56 : decode cX7_save 56 = .ok (.iconst 1, 1) := by decide +kernel
theorem dX7_save_57 : decode cX7_save 57 = .ok (.iadd, 1) := by decide +kernel
theorem dX7_save_58 : decode cX7_save 58 = .ok (.putfield 157, 3) := by decide +kernel
theorem dX7_save_61 : decode cX7_save 61 = .ok (.return_, 1) := by decide +kernel
theorem dX7_dropOldest_0 : decode cX7_dropOldest 0 = .ok (.aload_n 0, 1) := by decide +kernel
theorem dX7_dropOldest_1 : decode cX7_dropOldest 1 = .ok (.getfield 16, 3) := by decide +kernel
theorem dX7_dropOldest_4 : decode cX7_dropOldest 4 = .ok (.iconst 0, 1) := by decide +kernel
theorem dX7_dropOldest_5 : decode cX7_dropOldest 5 = .ok (.aaload, 1) := by decide +kernel
theorem dX7_dropOldest_6 : decode cX7_dropOldest 6 = .ok (.astore_n 1, 1) := by decide +kernel
theorem dX7_dropOldest_7 : decode cX7_dropOldest 7 = .ok (.iconst 1, 1) := by decide +kernel
theorem dX7_dropOldest_8 : decode cX7_dropOldest 8 = .ok (.istore_n 2, 1) := by decide +kernel
theorem dX7_dropOldest_9 : decode cX7_dropOldest 9 = .ok (.iload_n 2, 1) := by decide +kernel
theorem dX7_dropOldest_10 : decode cX7_dropOldest 10 = .ok (.aload_n 0, 1) := by decide +kernel
theorem dX7_dropOldest_11 : decode cX7_dropOldest 11 = .ok (.getfield 16, 3) := by decide +kernel
theorem dX7_dropOldest_14 : decode cX7_dropOldest 14 = .ok (.arraylength, 1) := by decide +kernel
theorem dX7_dropOldest_15 : decode cX7_dropOldest 15 = .ok (.if_icmp .ge 23, 3) := by decide +kernel
theorem dX7_dropOldest_18 : decode cX7_dropOldest 18 = .ok (.aload_n 0, 1) := by decide +kernel
theorem dX7_dropOldest_19 : decode cX7_dropOldest 19 = .ok (.getfield 16, 3) := by decide +kernel
theorem dX7_dropOldest_22 : decode cX7_dropOldest 22 = .ok (.iload_n 2, 1) := by decide +kernel
theorem dX7_dropOldest_23 : decode cX7_dropOldest 23 = .ok (.iconst 1, 1) := by decide +kernel
theorem dX7_dropOldest_24 : decode cX7_dropOldest 24 = .ok (.isub, 1) := by decide +kernel
theorem dX7_dropOldest_25 : decode cX7_dropOldest 25 = .ok (.aload_n 0, 1) := by decide +kernel
theorem dX7_dropOldest_26 : decode cX7_dropOldest 26 = .ok (.getfield 16, 3) := by decide +kernel
theorem dX7_dropOldest_29 : decode cX7_dropOldest 29 = .ok (.iload_n 2, 1) := by decide +kernel
theorem dX7_dropOldest_30 : decode cX7_dropOldest 30 = .ok (.aaload, 1) := by decide +kernel
theorem dX7_dropOldest_31 : decode cX7_dropOldest 31 = .ok (.aastore, 1) := by decide +kernel
theorem dX7_dropOldest_32 : decode cX7_dropOldest 32 = .ok (.iinc 2 1, 3) := by decide +kernel
theorem dX7_dropOldest_35 : decode cX7_dropOldest 35 = .ok (.goto (-26), 3) := by decide +kernel
theorem dX7_dropOldest_38 : decode cX7_dropOldest 38 = .ok (.aload_n 0, 1) := by decide +kernel
theorem dX7_dropOldest_39 : decode cX7_dropOldest 39 = .ok (.getfield 16, 3) := by decide +kernel
theorem dX7_dropOldest_42 : decode cX7_dropOldest 42 = .ok (.aload_n 0, 1) := by decide +kernel
theorem dX7_dropOldest_43 : decode cX7_dropOldest 43 = .ok (.getfield 16, 3) := by decide +kernel
theorem dX7_dropOldest_46 : decode cX7_dropOldest 46 = .ok (.arraylength, 1) := by decide +kernel
theorem dX7_dropOldest_47 : decode cX7_dropOldest 47 = .ok (.iconst 1, 1) := by decide +kernel
theorem dX7_dropOldest_48 : decode cX7_dropOldest 48 = .ok (.isub, 1) := by decide +kernel
theorem dX7_dropOldest_49 : decode cX7_dropOldest 49 = .ok (.aload_n 1, 1) := by decide +kernel
theorem dX7_dropOldest_50 : decode cX7_dropOldest 50 = .ok (.aastore, 1) := by decide +kernel
theorem dX7_dropOldest_51 : decode cX7_dropOldest 51 = .ok (.aload_n 0, 1) := by decide +kernel
theorem dX7_dropOldest_52 : decode cX7_dropOldest 52 = .ok (.aload_n 0, 1) := by decide +kernel
theorem dX7_dropOldest_53 : decode cX7_dropOldest 53 = .ok (.getfield 16, 3) := by decide +kernel
theorem dX7_dropOldest_56 : decode cX7_dropOldest 56 = .ok (.arraylength, 1) := by decide +kernel
theorem dX7_dropOldest_57 : decode cX7_dropOldest 57 = .ok (.iconst 1, 1) := by decide +kernel
theorem dX7_dropOldest_58 : decode cX7_dropOldest 58 = .ok (.isub, 1) := by decide +kernel
theorem dX7_dropOldest_59 : decode cX7_dropOldest 59 = .ok (.putfield 157, 3) := by decide +kernel
theorem dX7_dropOldest_62 : decode cX7_dropOldest 62 = .ok (.return_, 1) := by decide +kernel
theorem dX7_bitsOf_0 : decode cX7_bitsOf 0 = .ok (.dload_n 0, 1) := by decide +kernel
theorem dX7_bitsOf_1 : decode cX7_bitsOf 1 = .ok (.dconst 0, 1) := by decide +kernel
theorem dX7_bitsOf_2 : decode cX7_bitsOf 2 = .ok (.dcmp .l, 1) := by decide +kernel
theorem dX7_bitsOf_3 : decode cX7_bitsOf 3 = .ok (.ifCond .gt 5, 3) := by decide +kernel
theorem dX7_bitsOf_6 : decode cX7_bitsOf 6 = .ok (.lconst 0, 1) := by decide +kernel
theorem dX7_bitsOf_7 : decode cX7_bitsOf 7 = .ok (.lreturn, 1) := by decide +kernel
theorem dX7_bitsOf_8 : decode cX7_bitsOf 8 = .ok (.dload_n 0, 1) := by decide +kernel
theorem dX7_bitsOf_9 : decode cX7_bitsOf 9 = .ok (.dstore_n 2, 1) := by decide +kernel
theorem dX7_bitsOf_10 : decode cX7_bitsOf 10 = .ok (.ldc2_w 268, 3) := by decide +kernel
theorem dX7_bitsOf_13 : decode cX7_bitsOf 13 = .ok (.lstore 4, 2) := by decide +kernel
theorem dX7_bitsOf_15 : decode cX7_bitsOf 15 = .ok (.iconst 0, 1) := by decide +kernel
theorem dX7_bitsOf_16 : decode cX7_bitsOf 16 = .ok (.istore 6, 2) := by decide +kernel
theorem dX7_bitsOf_18 : decode cX7_bitsOf 18 = .ok (.iload 6, 2) := by decide +kernel
theorem dX7_bitsOf_20 : decode cX7_bitsOf 20 = .ok (.sipush 1022, 3) := by decide +kernel
theorem dX7_bitsOf_23 : decode cX7_bitsOf 23 = .ok (.if_icmp .ge 27, 3) := by decide +kernel
theorem dX7_bitsOf_26 : decode cX7_bitsOf 26 = .ok (.dload_n 2, 1) := by decide +kernel
theorem dX7_bitsOf_27 : decode cX7_bitsOf 27 = .ok (.dconst 1, 1) := by decide +kernel
theorem dX7_bitsOf_28 : decode cX7_bitsOf 28 = .ok (.dcmp .g, 1) := by decide +kernel
theorem dX7_bitsOf_29 : decode cX7_bitsOf 29 = .ok (.ifCond .ge 21, 3) := by decide +kernel
theorem dX7_bitsOf_32 : decode cX7_bitsOf 32 = .ok (.dload_n 2, 1) := by decide +kernel
theorem dX7_bitsOf_33 : decode cX7_bitsOf 33 = .ok (.ldc2_w 270, 3) := by decide +kernel
theorem dX7_bitsOf_36 : decode cX7_bitsOf 36 = .ok (.dmul, 1) := by decide +kernel
theorem dX7_bitsOf_37 : decode cX7_bitsOf 37 = .ok (.dstore_n 2, 1) := by decide +kernel
theorem dX7_bitsOf_38 : decode cX7_bitsOf 38 = .ok (.lload 4, 2) := by decide +kernel
theorem dX7_bitsOf_40 : decode cX7_bitsOf 40 = .ok (.lconst 1, 1) := by decide +kernel
theorem dX7_bitsOf_41 : decode cX7_bitsOf 41 = .ok (.lsub, 1) := by decide +kernel
theorem dX7_bitsOf_42 : decode cX7_bitsOf 42 = .ok (.lstore 4, 2) := by decide +kernel
theorem dX7_bitsOf_44 : decode cX7_bitsOf 44 = .ok (.iinc 6 1, 3) := by decide +kernel
theorem dX7_bitsOf_47 : decode cX7_bitsOf 47 = .ok (.goto (-29), 3) := by decide +kernel
theorem dX7_bitsOf_50 : decode cX7_bitsOf 50 = .ok (.dload_n 2, 1) := by decide +kernel
theorem dX7_bitsOf_51 : decode cX7_bitsOf 51 = .ok (.dconst 1, 1) := by decide +kernel
theorem dX7_bitsOf_52 : decode cX7_bitsOf 52 = .ok (.dsub, 1) := by decide +kernel
theorem dX7_bitsOf_53 : decode cX7_bitsOf 53 = .ok (.ldc2_w 272, 3) := by decide +kernel
theorem dX7_bitsOf_56 : decode cX7_bitsOf 56 = .ok (.dmul, 1) := by decide +kernel
theorem dX7_bitsOf_57 : decode cX7_bitsOf 57 = .ok (.d2l, 1) := by decide +kernel
theorem dX7_bitsOf_58 : decode cX7_bitsOf 58 = .ok (.lstore 6, 2) := by decide +kernel
theorem dX7_bitsOf_60 : decode cX7_bitsOf 60 = .ok (.lload 4, 2) := by decide +kernel
theorem dX7_bitsOf_62 : decode cX7_bitsOf 62 = .ok (.bipush 52, 2) := by decide +kernel
theorem dX7_bitsOf_64 : decode cX7_bitsOf 64 = .ok (.lshl, 1) := by decide +kernel
theorem dX7_bitsOf_65 : decode cX7_bitsOf 65 = .ok (.lload 6, 2) := by decide +kernel
theorem dX7_bitsOf_67 : decode cX7_bitsOf 67 = .ok (.lor, 1) := by decide +kernel
theorem dX7_bitsOf_68 : decode cX7_bitsOf 68 = .ok (.lreturn, 1) := by decide +kernel
theorem dX8_init_0 : decode cX8_init 0 = .ok (.aload_n 0, 1) := by decide +kernel
theorem dX8_init_1 : decode cX8_init 1 = .ok (.invokespecial 1, 3) := by decide +kernel
theorem dX8_init_4 : decode cX8_init 4 = .ok (.aload_n 0, 1) := by decide +kernel
theorem dX8_init_5 : decode cX8_init 5 = .ok (.sipush 275, 3) := by decide +kernel
theorem dX8_init_8 : decode cX8_init 8 = .ok (.newarray .int, 2) := by decide +kernel
theorem dX8_init_10 : decode cX8_init 10 = .ok (.putfield 7, 3) := by decide +kernel
theorem dX8_init_13 : decode cX8_init 13 = .ok (.aload_n 0, 1) := by decide +kernel
theorem dX8_init_14 : decode cX8_init 14 = .ok (.sipush 1650, 3) := by decide +kernel
theorem dX8_init_17 : decode cX8_init 17 = .ok (.newarray .int, 2) := by decide +kernel
theorem dX8_init_19 : decode cX8_init 19 = .ok (.putfield 13, 3) := by decide +kernel
theorem dX8_init_22 : decode cX8_init 22 = .ok (.aload_n 0, 1) := by decide +kernel
theorem dX8_init_23 : decode cX8_init 23 = .ok (.bipush 60, 2) := by decide +kernel
theorem dX8_init_25 : decode cX8_init 25 = .ok (.newarray .int, 2) := by decide +kernel
theorem dX8_init_27 : decode cX8_init 27 = .ok (.putfield 16, 3) := by decide +kernel
theorem dX8_init_30 : decode cX8_init 30 = .ok (.aload_n 0, 1) := by decide +kernel
theorem dX8_init_31 : decode cX8_init 31 = .ok (.sipush 256, 3) := by decide +kernel
theorem dX8_init_34 : decode cX8_init 34 = .ok (.newarray .boolean, 2) := by decide +kernel
theorem dX8_init_36 : decode cX8_init 36 = .ok (.putfield 19, 3) := by decide +kernel
theorem dX8_init_39 : decode cX8_init 39 = .ok (.aload_n 0, 1) := by decide +kernel
theorem dX8_init_40 : decode cX8_init 40 = .ok (.sipush 256, 3) := by decide +kernel
theorem dX8_init_43 : decode cX8_init 43 = .ok (.newarray .int, 2) := by decide +kernel
theorem dX8_init_45 : decode cX8_init 45 = .ok (.putfield 23, 3) := by decide +kernel
theorem dX8_init_48 : decode cX8_init 48 = .ok (.aload_n 0, 1) := by decide +kernel
theorem dX8_init_49 : decode cX8_init 49 = .ok (.sipush 256, 3) := by decide +kernel
theorem dX8_init_52 : decode cX8_init 52 = .ok (.newarray .int, 2) := by decide +kernel
theorem dX8_init_54 : decode cX8_init 54 = .ok (.putfield 26, 3) := by decide +kernel
theorem dX8_init_57 : decode cX8_init 57 = .ok (.aload_n 0, 1) := by decide +kernel
theorem dX8_init_58 : decode cX8_init 58 = .ok (.sipush 256, 3) := by decide +kernel
theorem dX8_init_61 : decode cX8_init 61 = .ok (.newarray .boolean, 2) := by decide +kernel
theorem dX8_init_63 : decode cX8_init 63 = .ok (.putfield 29, 3) := by decide +kernel
theorem dX8_init_66 : decode cX8_init 66 = .ok (.aload_n 0, 1) := by decide +kernel
theorem dX8_init_67 : decode cX8_init 67 = .ok (.sipush 256, 3) := by decide +kernel
theorem dX8_init_70 : decode cX8_init 70 = .ok (.newarray .int, 2) := by decide +kernel
theorem dX8_init_72 : decode cX8_init 72 = .ok (.putfield 32, 3) := by decide +kernel
theorem dX8_init_75 : decode cX8_init 75 = .ok (.aload_n 0, 1) := by decide +kernel
theorem dX8_init_76 : decode cX8_init 76 = .ok (.sipush 300, 3) := by decide +kernel
theorem dX8_init_79 : decode cX8_init 79 = .ok (.newarray .int, 2) := by decide +kernel
theorem dX8_init_81 : decode cX8_init 81 = .ok (.putfield 35, 3) := by decide +kernel
theorem dX8_init_84 : decode cX8_init 84 = .ok (.aload_n 0, 1) := by decide +kernel
theorem dX8_init_85 : decode cX8_init 85 = .ok (.bipush 8, 2) := by decide +kernel
theorem dX8_init_87 : decode cX8_init 87 = .ok (.newarray .int, 2) := by decide +kernel
theorem dX8_init_89 : decode cX8_init 89 = .ok (.putfield 38, 3) := by decide +kernel
theorem dX8_init_92 : decode cX8_init 92 = .ok (.aload_n 0, 1) := by decide +kernel
theorem dX8_init_93 : decode cX8_init 93 = .ok (.bipush 8, 2) := by decide +kernel
theorem dX8_init_95 : decode cX8_init 95 = .ok (.newarray .int, 2) := by decide +kernel
theorem dX8_init_97 : decode cX8_init 97 = .ok (.putfield 41, 3) := by decide +kernel
theorem dX8_init_100 : decode cX8_init 100 = .ok (.aload_n 0, 1) := by decide +kernel
theorem dX8_init_101 : decode cX8_init 101 = .ok (.bipush 96, 2) := by decide +kernel
theorem dX8_init_103 : decode cX8_init 103 = .ok (.newarray .int, 2) := by decide +kernel
theorem dX8_init_105 : decode cX8_init 105 = .ok (.putfield 44, 3) := by decide +kernel
theorem dX8_init_108 : decode cX8_init 108 = .ok (.aload_n 0, 1) := by decide +kernel
theorem dX8_init_109 : decode cX8_init 109 = .ok (.iconst 0, 1) := by decide +kernel
theorem dX8_init_110 : decode cX8_init 110 = .ok (.putfield 47, 3) := by decide +kernel
theorem dX8_init_113 : decode cX8_init 113 = .ok (.return_, 1) := by decide +kernel
theorem dX8_thrown_0 : decode cX8_thrown 0 = .ok (.aload_n 0, 1) := by decide +kernel
theorem dX8_thrown_1 : decode cX8_thrown 1 = .ok (.getfield 47, 3) := by decide +kernel
theorem dX8_thrown_4 : decode cX8_thrown 4 = .ok (.ireturn, 1) := by decide +kernel
theorem dX8_in_0 : decode cX8_in 0 = .ok (.iload_n 0, 1) := by decide +kernel
theorem dX8_in_1 : decode cX8_in 1 = .ok (.iload_n 1, 1) := by decide +kernel
theorem dX8_in_2 : decode cX8_in 2 = .ok (.if_icmp .lt 12, 3) := by decide +kernel
theorem dX8_in_5 : decode cX8_in 5 = .ok (.iload_n 0, 1) := by decide +kernel
theorem dX8_in_6 : decode cX8_in 6 = .ok (.iload_n 2, 1) := by decide +kernel
theorem dX8_in_7 : decode cX8_in 7 = .ok (.if_icmp .gt 7, 3) := by decide +kernel
theorem dX8_in_10 : decode cX8_in 10 = .ok (.iconst 1, 1) := by decide +kernel
theorem dX8_in_11 : decode cX8_in 11 = .ok (.goto 4, 3) := by decide +kernel
theorem dX8_in_14 : decode cX8_in 14 = .ok (.iconst 0, 1) := by decide +kernel
theorem dX8_in_15 : decode cX8_in 15 = .ok (.ireturn, 1) := by decide +kernel
theorem dX8_fails_0 : decode cX8_fails 0 = .ok (.aload_n 0, 1) := by decide +kernel
theorem dX8_fails_1 : decode cX8_fails 1 = .ok (.iload_n 1, 1) := by decide +kernel
theorem dX8_fails_2 : decode cX8_fails 2 = .ok (.putfield 47, 3) := by decide +kernel
theorem dX8_fails_5 : decode cX8_fails 5 = .ok (.iconst 0, 1) := by decide +kernel
theorem dX8_fails_6 : decode cX8_fails 6 = .ok (.ireturn, 1) := by decide +kernel
theorem dX8_saves_0 : decode cX8_saves 0 = .ok (.aload_n 0, 1) := by decide +kernel
theorem dX8_saves_1 : decode cX8_saves 1 = .ok (.getfield 51, 3) := by decide +kernel
theorem dX8_saves_4 : decode cX8_saves 4 = .ok (.bipush 6, 2) := by decide +kernel
theorem dX8_saves_6 : decode cX8_saves 6 = .ok (.if_icmp .ne 44, 3) := by decide +kernel
theorem dX8_saves_9 : decode cX8_saves 9 = .ok (.iconst 0, 1) := by decide +kernel
theorem dX8_saves_10 : decode cX8_saves 10 = .ok (.istore_n 1, 1) := by decide +kernel
theorem dX8_saves_11 : decode cX8_saves 11 = .ok (.iload_n 1, 1) := by decide +kernel
theorem dX8_saves_12 : decode cX8_saves 12 = .ok (.sipush 1375, 3) := by decide +kernel
theorem dX8_saves_15 : decode cX8_saves 15 = .ok (.if_icmp .ge 25, 3) := by decide +kernel
theorem dX8_saves_18 : decode cX8_saves 18 = .ok (.aload_n 0, 1) := by decide +kernel
theorem dX8_saves_19 : decode cX8_saves 19 = .ok (.getfield 13, 3) := by decide +kernel
theorem dX8_saves_22 : decode cX8_saves 22 = .ok (.iload_n 1, 1) := by decide +kernel
theorem dX8_saves_23 : decode cX8_saves 23 = .ok (.aload_n 0, 1) := by decide +kernel
theorem dX8_saves_24 : decode cX8_saves 24 = .ok (.getfield 13, 3) := by decide +kernel
theorem dX8_saves_27 : decode cX8_saves 27 = .ok (.iload_n 1, 1) := by decide +kernel
theorem dX8_saves_28 : decode cX8_saves 28 = .ok (.sipush 275, 3) := by decide +kernel
theorem dX8_saves_31 : decode cX8_saves 31 = .ok (.iadd, 1) := by decide +kernel
theorem dX8_saves_32 : decode cX8_saves 32 = .ok (.iaload, 1) := by decide +kernel
theorem dX8_saves_33 : decode cX8_saves 33 = .ok (.iastore, 1) := by decide +kernel
theorem dX8_saves_34 : decode cX8_saves 34 = .ok (.iinc 1 1, 3) := by decide +kernel
theorem dX8_saves_37 : decode cX8_saves 37 = .ok (.goto (-26), 3) := by decide +kernel
theorem dX8_saves_40 : decode cX8_saves 40 = .ok (.aload_n 0, 1) := by decide +kernel
theorem dX8_saves_41 : decode cX8_saves 41 = .ok (.dup, 1) := by decide +kernel
theorem dX8_saves_42 : decode cX8_saves 42 = .ok (.getfield 51, 3) := by decide +kernel
theorem dX8_saves_45 : decode cX8_saves 45 = .ok (.iconst 1, 1) := by decide +kernel
theorem dX8_saves_46 : decode cX8_saves 46 = .ok (.isub, 1) := by decide +kernel
theorem dX8_saves_47 : decode cX8_saves 47 = .ok (.putfield 51, 3) := by decide +kernel
theorem dX8_saves_50 : decode cX8_saves 50 = .ok (.iconst 0, 1) := by decide +kernel
theorem dX8_saves_51 : decode cX8_saves 51 = .ok (.istore_n 1, 1) := by decide +kernel
theorem dX8_saves_52 : decode cX8_saves 52 = .ok (.iload_n 1, 1) := by decide +kernel
theorem dX8_saves_53 : decode cX8_saves 53 = .ok (.sipush 275, 3) := by decide +kernel
theorem dX8_saves_56 : decode cX8_saves 56 = .ok (.if_icmp .ge 30, 3) := by decide +kernel
theorem dX8_saves_59 : decode cX8_saves 59 = .ok (.aload_n 0, 1) := by decide +kernel
theorem dX8_saves_60 : decode cX8_saves 60 = .ok (.getfield 13, 3) := by decide +kernel
theorem dX8_saves_63 : decode cX8_saves 63 = .ok (.sipush 275, 3) := by decide +kernel
theorem dX8_saves_66 : decode cX8_saves 66 = .ok (.aload_n 0, 1) := by decide +kernel
theorem dX8_saves_67 : decode cX8_saves 67 = .ok (.getfield 51, 3) := by decide +kernel
theorem dX8_saves_70 : decode cX8_saves 70 = .ok (.imul, 1) := by decide +kernel
theorem dX8_saves_71 : decode cX8_saves 71 = .ok (.iload_n 1, 1) := by decide +kernel
theorem dX8_saves_72 : decode cX8_saves 72 = .ok (.iadd, 1) := by decide +kernel
theorem dX8_saves_73 : decode cX8_saves 73 = .ok (.aload_n 0, 1) := by decide +kernel
theorem dX8_saves_74 : decode cX8_saves 74 = .ok (.getfield 7, 3) := by decide +kernel
theorem dX8_saves_77 : decode cX8_saves 77 = .ok (.iload_n 1, 1) := by decide +kernel
theorem dX8_saves_78 : decode cX8_saves 78 = .ok (.iaload, 1) := by decide +kernel
theorem dX8_saves_79 : decode cX8_saves 79 = .ok (.iastore, 1) := by decide +kernel
theorem dX8_saves_80 : decode cX8_saves 80 = .ok (.iinc 1 1, 3) := by decide +kernel
theorem dX8_saves_83 : decode cX8_saves 83 = .ok (.goto (-31), 3) := by decide +kernel
theorem dX8_saves_86 : decode cX8_saves 86 = .ok (.aload_n 0, 1) := by decide +kernel
theorem dX8_saves_87 : decode cX8_saves 87 = .ok (.dup, 1) := by decide +kernel
theorem dX8_saves_88 : decode cX8_saves 88 = .ok (.getfield 51, 3) := by decide +kernel
theorem dX8_saves_91 : decode cX8_saves 91 = .ok (.iconst 1, 1) := by decide +kernel
theorem dX8_saves_92 : decode cX8_saves 92 = .ok (.iadd, 1) := by decide +kernel
theorem dX8_saves_93 : decode cX8_saves 93 = .ok (.putfield 51, 3) := by decide +kernel
theorem dX8_saves_96 : decode cX8_saves 96 = .ok (.return_, 1) := by decide +kernel
theorem dX8_isFact_0 : decode cX8_isFact 0 = .ok (.iload_n 0, 1) := by decide +kernel
theorem dX8_isFact_1 : decode cX8_isFact 1 = .ok (.bipush 8, 2) := by decide +kernel
theorem dX8_isFact_3 : decode cX8_isFact 3 = .ok (.idiv, 1) := by decide +kernel
theorem dX8_isFact_4 : decode cX8_isFact 4 = .ok (.bipush 8, 2) := by decide +kernel
theorem dX8_isFact_6 : decode cX8_isFact 6 = .ok (.irem, 1) := by decide +kernel
theorem dX8_isFact_7 : decode cX8_isFact 7 = .ok (.istore_n 1, 1) := by decide +kernel
theorem dX8_isFact_8 : decode cX8_isFact 8 = .ok (.iload_n 0, 1) := by decide +kernel
theorem dX8_isFact_9 : decode cX8_isFact 9 = .ok (.bipush 8, 2) := by decide +kernel
theorem dX8_isFact_11 : decode cX8_isFact 11 = .ok (.irem, 1) := by decide +kernel
theorem dX8_isFact_12 : decode cX8_isFact 12 = .ok (.istore_n 2, 1) := by decide +kernel
theorem dX8_isFact_13 : decode cX8_isFact 13 = .ok (.iload_n 1, 1) := by decide +kernel
theorem dX8_isFact_14 : decode cX8_isFact 14 = .ok (.iconst 5, 1) := by decide +kernel
theorem dX8_isFact_15 : decode cX8_isFact 15 = .ok (.if_icmp .ge 22, 3) := by decide +kernel
theorem dX8_isFact_18 : decode cX8_isFact 18 = .ok (.iload_n 2, 1) := by decide +kernel
theorem dX8_isFact_19 : decode cX8_isFact 19 = .ok (.iconst 5, 1) := by decide +kernel
theorem dX8_isFact_20 : decode cX8_isFact 20 = .ok (.if_icmp .lt 13, 3) := by decide +kernel
theorem dX8_isFact_23 : decode cX8_isFact 23 = .ok (.iload_n 2, 1) := by decide +kernel
theorem dX8_isFact_24 : decode cX8_isFact 24 = .ok (.iconst 5, 1) := by decide +kernel
theorem dX8_isFact_25 : decode cX8_isFact 25 = .ok (.if_icmp .ne 12, 3) := by decide +kernel
theorem dX8_isFact_28 : decode cX8_isFact 28 = .ok (.iload_n 1, 1) := by decide +kernel
theorem dX8_isFact_29 : decode cX8_isFact 29 = .ok (.iconst 4, 1) := by decide +kernel
theorem dX8_isFact_30 : decode cX8_isFact 30 = .ok (.if_icmp .ne 7, 3) := by decide +kernel
theorem dX8_isFact_33 : decode cX8_isFact 33 = .ok (.iconst 1, 1) := by decide +kernel
theorem dX8_isFact_34 : decode cX8_isFact 34 = .ok (.goto 4, 3) := by decide +kernel
theorem dX8_isFact_37 : decode cX8_isFact 37 = .ok (.iconst 0, 1) := by decide +kernel
theorem dX8_isFact_38 : decode cX8_isFact 38 = .ok (.ireturn, 1) := by decide +kernel
theorem dX8_isOfFact_0 : decode cX8_isOfFact 0 = .ok (.iload_n 0, 1) := by decide +kernel
theorem dX8_isOfFact_1 : decode cX8_isOfFact 1 = .ok (.iconst 0, 1) := by decide +kernel
theorem dX8_isOfFact_2 : decode cX8_isOfFact 2 = .ok (.iconst 3, 1) := by decide +kernel
theorem dX8_isOfFact_3 : decode cX8_isOfFact 3 = .ok (.invokestatic 54, 3) := by decide +kernel
theorem dX8_isOfFact_6 : decode cX8_isOfFact 6 = .ok (.ifCond .eq 42, 3) := by decide +kernel
theorem dX8_isOfFact_9 : decode cX8_isOfFact 9 = .ok (.iload_n 1, 1) := by decide +kernel
theorem dX8_isOfFact_10 : decode cX8_isOfFact 10 = .ok (.iconst 0, 1) := by decide +kernel
theorem dX8_isOfFact_11 : decode cX8_isOfFact 11 = .ok (.iconst 4, 1) := by decide +kernel
theorem dX8_isOfFact_12 : decode cX8_isOfFact 12 = .ok (.invokestatic 54, 3) := by decide +kernel
theorem dX8_isOfFact_15 : decode cX8_isOfFact 15 = .ok (.ifCond .eq 33, 3) := by decide +kernel
theorem dX8_isOfFact_18 : decode cX8_isOfFact 18 = .ok (.iload_n 2, 1) := by decide +kernel
theorem dX8_isOfFact_19 : decode cX8_isOfFact 19 = .ok (.iconst 0, 1) := by decide +kernel
theorem dX8_isOfFact_20 : decode cX8_isOfFact 20 = .ok (.iconst 5, 1) := by decide +kernel
theorem dX8_isOfFact_21 : decode cX8_isOfFact 21 = .ok (.invokestatic 54, 3) := by decide +kernel
theorem dX8_isOfFact_24 : decode cX8_isOfFact 24 = .ok (.ifCond .eq 24, 3) := by decide +kernel
theorem dX8_isOfFact_27 : decode cX8_isOfFact 27 = .ok (.bipush 64, 2) := by decide +kernel
theorem dX8_isOfFact_29 : decode cX8_isOfFact 29 = .ok (.iload_n 0, 1) := by decide +kernel
theorem dX8_isOfFact_30 : decode cX8_isOfFact 30 = .ok (.imul, 1) := by decide +kernel
theorem dX8_isOfFact_31 : decode cX8_isOfFact 31 = .ok (.bipush 8, 2) := by decide +kernel
theorem dX8_isOfFact_33 : decode cX8_isOfFact 33 = .ok (.iload_n 1, 1) := by decide +kernel
theorem dX8_isOfFact_34 : decode cX8_isOfFact 34 = .ok (.imul, 1) := by decide +kernel
theorem dX8_isOfFact_35 : decode cX8_isOfFact 35 = .ok (.iadd, 1) := by decide +kernel
theorem dX8_isOfFact_36 : decode cX8_isOfFact 36 = .ok (.iload_n 2, 1) := by decide +kernel
theorem dX8_isOfFact_37 : decode cX8_isOfFact 37 = .ok (.iadd, 1) := by decide +kernel
theorem dX8_isOfFact_38 : decode cX8_isOfFact 38 = .ok (.invokestatic 58, 3) := by decide +kernel
theorem dX8_isOfFact_41 : decode cX8_isOfFact 41 = .ok (.ifCond .eq 7, 3) := by decide +kernel
theorem dX8_isOfFact_44 : decode cX8_isOfFact 44 = .ok (.iconst 1, 1) := by decide +kernel
theorem dX8_isOfFact_45 : decode cX8_isOfFact 45 = .ok (.goto 4, 3) := by decide +kernel
theorem dX8_isOfFact_48 : decode cX8_isOfFact 48 = .ok (.iconst 0, 1) := by decide +kernel
theorem dX8_isOfFact_49 : decode cX8_isOfFact 49 = .ok (.ireturn, 1) := by decide +kernel
theorem dX8_isStronger_0 : decode cX8_isStronger 0 = .ok (.iload_n 0, 1) := by decide +kernel
theorem dX8_isStronger_1 : decode cX8_isStronger 1 = .ok (.bipush 8, 2) := by decide +kernel
theorem dX8_isStronger_3 : decode cX8_isStronger 3 = .ok (.idiv, 1) := by decide +kernel
theorem dX8_isStronger_4 : decode cX8_isStronger 4 = .ok (.bipush 8, 2) := by decide +kernel
theorem dX8_isStronger_6 : decode cX8_isStronger 6 = .ok (.irem, 1) := by decide +kernel
theorem dX8_isStronger_7 : decode cX8_isStronger 7 = .ok (.istore_n 2, 1) := by decide +kernel
theorem dX8_isStronger_8 : decode cX8_isStronger 8 = .ok (.iload_n 0, 1) := by decide +kernel
theorem dX8_isStronger_9 : decode cX8_isStronger 9 = .ok (.bipush 8, 2) := by decide +kernel
theorem dX8_isStronger_11 : decode cX8_isStronger 11 = .ok (.irem, 1) := by decide +kernel
theorem dX8_isStronger_12 : decode cX8_isStronger 12 = .ok (.istore_n 3, 1) := by decide +kernel
theorem dX8_isStronger_13 : decode cX8_isStronger 13 = .ok (.iload_n 2, 1) := by decide +kernel
theorem dX8_isStronger_14 : decode cX8_isStronger 14 = .ok (.iconst 4, 1) := by decide +kernel
theorem dX8_isStronger_15 : decode cX8_isStronger 15 = .ok (.if_icmp .eq 14, 3) := by decide +kernel
theorem dX8_isStronger_18 : decode cX8_isStronger 18 = .ok (.iload_n 2, 1) := by decide +kernel
theorem dX8_isStronger_19 : decode cX8_isStronger 19 = .ok (.iload_n 1, 1) := by decide +kernel
theorem dX8_isStronger_20 : decode cX8_isStronger 20 = .ok (.bipush 8, 2) := by decide +kernel
theorem dX8_isStronger_22 : decode cX8_isStronger 22 = .ok (.idiv, 1) := by decide +kernel
theorem dX8_isStronger_23 : decode cX8_isStronger 23 = .ok (.bipush 8, 2) := by decide +kernel
theorem dX8_isStronger_25 : decode cX8_isStronger 25 = .ok (.irem, 1) := by decide +kernel
theorem dX8_isStronger_26 : decode cX8_isStronger 26 = .ok (.if_icmp .ne 7, 3) := by decide +kernel
theorem dX8_isStronger_29 : decode cX8_isStronger 29 = .ok (.iconst 1, 1) := by decide +kernel
theorem dX8_isStronger_30 : decode cX8_isStronger 30 = .ok (.goto 4, 3) := by decide +kernel
theorem dX8_isStronger_33 : decode cX8_isStronger 33 = .ok (.iconst 0, 1) := by decide +kernel
theorem dX8_isStronger_34 : decode cX8_isStronger 34 = .ok (.istore 4, 2) := by decide +kernel
theorem dX8_isStronger_36 : decode cX8_isStronger 36 = .ok (.iload_n 3, 1) := by decide +kernel
theorem dX8_isStronger_37 : decode cX8_isStronger 37 = .ok (.iconst 3, 1) := by decide +kernel
theorem dX8_isStronger_38 : decode cX8_isStronger 38 = .ok (.if_icmp .gt 11, 3) := by decide +kernel
theorem dX8_isStronger_41 : decode cX8_isStronger 41 = .ok (.iload_n 3, 1) := by decide +kernel
theorem dX8_isStronger_42 : decode cX8_isStronger 42 = .ok (.iload_n 1, 1) := by decide +kernel
theorem dX8_isStronger_43 : decode cX8_isStronger 43 = .ok (.bipush 8, 2) := by decide +kernel
theorem dX8_isStronger_45 : decode cX8_isStronger 45 = .ok (.irem, 1) := by decide +kernel
theorem dX8_isStronger_46 : decode cX8_isStronger 46 = .ok (.if_icmp .ne 7, 3) := by decide +kernel
theorem dX8_isStronger_49 : decode cX8_isStronger 49 = .ok (.iconst 1, 1) := by decide +kernel
theorem dX8_isStronger_50 : decode cX8_isStronger 50 = .ok (.goto 4, 3) := by decide +kernel
theorem dX8_isStronger_53 : decode cX8_isStronger 53 = .ok (.iconst 0, 1) := by decide +kernel
theorem dX8_isStronger_54 : decode cX8_isStronger 54 = .ok (.istore 5, 2) := by decide +kernel
theorem dX8_isStronger_56 : decode cX8_isStronger 56 = .ok (.iload_n 2, 1) := by decide +kernel
theorem dX8_isStronger_57 : decode cX8_isStronger 57 = .ok (.iconst 4, 1) := by decide +kernel
theorem dX8_isStronger_58 : decode cX8_isStronger 58 = .ok (.if_icmp .ne 22, 3) := by decide +kernel
theorem dX8_isStronger_61 : decode cX8_isStronger 61 = .ok (.iload_n 3, 1) := by decide +kernel
theorem dX8_isStronger_62 : decode cX8_isStronger 62 = .ok (.iconst 4, 1) := by decide +kernel
theorem dX8_isStronger_63 : decode cX8_isStronger 63 = .ok (.if_icmp .ne 17, 3) := by decide +kernel
theorem dX8_isStronger_66 : decode cX8_isStronger 66 = .ok (.iload_n 1, 1) := by decide +kernel
theorem dX8_isStronger_67 : decode cX8_isStronger 67 = .ok (.bipush 8, 2) := by decide +kernel
theorem dX8_isStronger_69 : decode cX8_isStronger 69 = .ok (.idiv, 1) := by decide +kernel
theorem dX8_isStronger_70 : decode cX8_isStronger 70 = .ok (.bipush 8, 2) := by decide +kernel
theorem dX8_isStronger_72 : decode cX8_isStronger 72 = .ok (.irem, 1) := by decide +kernel
theorem dX8_isStronger_73 : decode cX8_isStronger 73 = .ok (.iload_n 1, 1) := by decide +kernel
theorem dX8_isStronger_74 : decode cX8_isStronger 74 = .ok (.bipush 8, 2) := by decide +kernel
theorem dX8_isStronger_76 : decode cX8_isStronger 76 = .ok (.irem, 1) := by decide +kernel
theorem dX8_isStronger_77 : decode cX8_isStronger 77 = .ok (.if_icmp .ne 7, 3) := by decide +kernel
theorem dX8_isStronger_80 : decode cX8_isStronger 80 = .ok (.iconst 1, 1) := by decide +kernel
theorem dX8_isStronger_81 : decode cX8_isStronger 81 = .ok (.goto 4, 3) := by decide +kernel
theorem dX8_isStronger_84 : decode cX8_isStronger 84 = .ok (.iconst 0, 1) := by decide +kernel
theorem dX8_isStronger_85 : decode cX8_isStronger 85 = .ok (.istore 6, 2) := by decide +kernel
theorem dX8_isStronger_87 : decode cX8_isStronger 87 = .ok (.iload_n 0, 1) := by decide +kernel
theorem dX8_isStronger_88 : decode cX8_isStronger 88 = .ok (.iload_n 1, 1) := by decide +kernel
theorem dX8_isStronger_89 : decode cX8_isStronger 89 = .ok (.if_icmp .eq 33, 3) := by decide +kernel
theorem dX8_isStronger_92 : decode cX8_isStronger 92 = .ok (.iload_n 0, 1) := by decide +kernel
theorem dX8_isStronger_93 : decode cX8_isStronger 93 = .ok (.bipush 64, 2) := by decide +kernel
theorem dX8_isStronger_95 : decode cX8_isStronger 95 = .ok (.idiv, 1) := by decide +kernel
theorem dX8_isStronger_96 : decode cX8_isStronger 96 = .ok (.iload_n 1, 1) := by decide +kernel
theorem dX8_isStronger_97 : decode cX8_isStronger 97 = .ok (.bipush 64, 2) := by decide +kernel
theorem dX8_isStronger_99 : decode cX8_isStronger 99 = .ok (.idiv, 1) := by decide +kernel
theorem dX8_isStronger_100 : decode cX8_isStronger 100 = .ok (.if_icmp .ne 22, 3) := by decide +kernel
theorem dX8_isStronger_103 : decode cX8_isStronger 103 = .ok (.iload 4, 2) := by decide +kernel
theorem dX8_isStronger_105 : decode cX8_isStronger 105 = .ok (.ifCond .eq 17, 3) := by decide +kernel
theorem dX8_isStronger_108 : decode cX8_isStronger 108 = .ok (.iload 5, 2) := by decide +kernel
theorem dX8_isStronger_110 : decode cX8_isStronger 110 = .ok (.ifCond .eq 12, 3) := by decide +kernel
theorem dX8_isStronger_113 : decode cX8_isStronger 113 = .ok (.iload 6, 2) := by decide +kernel
theorem dX8_isStronger_115 : decode cX8_isStronger 115 = .ok (.ifCond .eq 7, 3) := by decide +kernel
theorem dX8_isStronger_118 : decode cX8_isStronger 118 = .ok (.iconst 1, 1) := by decide +kernel
theorem dX8_isStronger_119 : decode cX8_isStronger 119 = .ok (.goto 4, 3) := by decide +kernel
theorem dX8_isStronger_122 : decode cX8_isStronger 122 = .ok (.iconst 0, 1) := by decide +kernel
theorem dX8_isStronger_123 : decode cX8_isStronger 123 = .ok (.ireturn, 1) := by decide +kernel
theorem dX8_instancesOf_0 : decode cX8_instancesOf 0 = .ok (.iload_n 0, 1) := by decide +kernel
theorem dX8_instancesOf_1 : decode cX8_instancesOf 1 = .ok (.bipush 8, 2) := by decide +kernel
theorem dX8_instancesOf_3 : decode cX8_instancesOf 3 = .ok (.idiv, 1) := by decide +kernel
theorem dX8_instancesOf_4 : decode cX8_instancesOf 4 = .ok (.bipush 8, 2) := by decide +kernel
theorem dX8_instancesOf_6 : decode cX8_instancesOf 6 = .ok (.irem, 1) := by decide +kernel
theorem dX8_instancesOf_7 : decode cX8_instancesOf 7 = .ok (.iconst 3, 1) := by decide +kernel
theorem dX8_instancesOf_8 : decode cX8_instancesOf 8 = .ok (.if_icmp .le 7, 3) := by decide +kernel
theorem dX8_instancesOf_11 : decode cX8_instancesOf 11 = .ok (.iconst 1, 1) := by decide +kernel
theorem dX8_instancesOf_12 : decode cX8_instancesOf 12 = .ok (.goto 4, 3) := by decide +kernel
theorem dX8_instancesOf_15 : decode cX8_instancesOf 15 = .ok (.iconst 0, 1) := by decide +kernel
theorem dX8_instancesOf_16 : decode cX8_instancesOf 16 = .ok (.iload_n 0, 1) := by decide +kernel
theorem dX8_instancesOf_17 : decode cX8_instancesOf 17 = .ok (.bipush 8, 2) := by decide +kernel
theorem dX8_instancesOf_19 : decode cX8_instancesOf 19 = .ok (.irem, 1) := by decide +kernel
theorem dX8_instancesOf_20 : decode cX8_instancesOf 20 = .ok (.iconst 3, 1) := by decide +kernel
theorem dX8_instancesOf_21 : decode cX8_instancesOf 21 = .ok (.if_icmp .le 7, 3) := by decide +kernel
theorem dX8_instancesOf_24 : decode cX8_instancesOf 24 = .ok (.iconst 1, 1) := by decide +kernel
theorem dX8_instancesOf_25 : decode cX8_instancesOf 25 = .ok (.goto 4, 3) := by decide +kernel
theorem dX8_instancesOf_28 : decode cX8_instancesOf 28 = .ok (.iconst 0, 1) := by decide +kernel
theorem dX8_instancesOf_29 : decode cX8_instancesOf 29 = .ok (.iadd, 1) := by decide +kernel
theorem dX8_instancesOf_30 : decode cX8_instancesOf 30 = .ok (.istore_n 1, 1) := by decide +kernel
theorem dX8_instancesOf_31 : decode cX8_instancesOf 31 = .ok (.iload_n 1, 1) := by decide +kernel
theorem dX8_instancesOf_32 : decode cX8_instancesOf 32 = .ok (.ifCond .ne 7, 3) := by decide +kernel
theorem dX8_instancesOf_35 : decode cX8_instancesOf 35 = .ok (.iconst 1, 1) := by decide +kernel
theorem dX8_instancesOf_36 : decode cX8_instancesOf 36 = .ok (.goto 17, 3) := by decide +kernel
theorem dX8_instancesOf_39 : decode cX8_instancesOf 39 = .ok (.iload_n 0, 1) := by decide +kernel
theorem dX8_instancesOf_40 : decode cX8_instancesOf 40 = .ok (.bipush 8, 2) := by decide +kernel
theorem dX8_instancesOf_42 : decode cX8_instancesOf 42 = .ok (.irem, 1) := by decide +kernel
theorem dX8_instancesOf_43 : decode cX8_instancesOf 43 = .ok (.iconst 5, 1) := by decide +kernel
theorem dX8_instancesOf_44 : decode cX8_instancesOf 44 = .ok (.if_icmp .ne 8, 3) := by decide +kernel
theorem dX8_instancesOf_47 : decode cX8_instancesOf 47 = .ok (.bipush 16, 2) := by decide +kernel
theorem dX8_instancesOf_49 : decode cX8_instancesOf 49 = .ok (.goto 4, 3) := by decide +kernel
theorem dX8_instancesOf_52 : decode cX8_instancesOf 52 = .ok (.iconst 4, 1) := by decide +kernel
theorem dX8_instancesOf_53 : decode cX8_instancesOf 53 = .ok (.ireturn, 1) := by decide +kernel
theorem dX8_toldMany_0 : decode cX8_toldMany 0 = .ok (.iconst 0, 1) := by decide +kernel
theorem dX8_toldMany_1 : decode cX8_toldMany 1 = .ok (.istore_n 1, 1) := by decide +kernel
theorem dX8_toldMany_2 : decode cX8_toldMany 2 = .ok (.iconst 0, 1) := by decide +kernel
theorem dX8_toldMany_3 : decode cX8_toldMany 3 = .ok (.istore_n 2, 1) := by decide +kernel
theorem dX8_toldMany_4 : decode cX8_toldMany 4 = .ok (.iload_n 2, 1) := by decide +kernel
theorem dX8_toldMany_5 : decode cX8_toldMany 5 = .ok (.sipush 256, 3) := by decide +kernel
theorem dX8_toldMany_8 : decode cX8_toldMany 8 = .ok (.if_icmp .ge 18, 3) := by decide +kernel
theorem dX8_toldMany_11 : decode cX8_toldMany 11 = .ok (.iload_n 1, 1) := by decide +kernel
theorem dX8_toldMany_12 : decode cX8_toldMany 12 = .ok (.aload_n 0, 1) := by decide +kernel
theorem dX8_toldMany_13 : decode cX8_toldMany 13 = .ok (.getfield 7, 3) := by decide +kernel
theorem dX8_toldMany_16 : decode cX8_toldMany 16 = .ok (.iload_n 2, 1) := by decide +kernel
theorem dX8_toldMany_17 : decode cX8_toldMany 17 = .ok (.iaload, 1) := by decide +kernel
theorem dX8_toldMany_18 : decode cX8_toldMany 18 = .ok (.iadd, 1) := by decide +kernel
theorem dX8_toldMany_19 : decode cX8_toldMany 19 = .ok (.istore_n 1, 1) := by decide +kernel
theorem dX8_toldMany_20 : decode cX8_toldMany 20 = .ok (.iinc 2 1, 3) := by decide +kernel
theorem dX8_toldMany_23 : decode cX8_toldMany 23 = .ok (.goto (-19), 3) := by decide +kernel
theorem dX8_toldMany_26 : decode cX8_toldMany 26 = .ok (.iload_n 1, 1) := by decide +kernel
theorem dX8_toldMany_27 : decode cX8_toldMany 27 = .ok (.ireturn, 1) := by decide +kernel
theorem dX8_toldAt_0 : decode cX8_toldAt 0 = .ok (.iload_n 1, 1) := by decide +kernel
theorem dX8_toldAt_1 : decode cX8_toldAt 1 = .ok (.istore_n 2, 1) := by decide +kernel
theorem dX8_toldAt_2 : decode cX8_toldAt 2 = .ok (.iconst 0, 1) := by decide +kernel
theorem dX8_toldAt_3 : decode cX8_toldAt 3 = .ok (.istore_n 3, 1) := by decide +kernel
theorem dX8_toldAt_4 : decode cX8_toldAt 4 = .ok (.iload_n 3, 1) := by decide +kernel
theorem dX8_toldAt_5 : decode cX8_toldAt 5 = .ok (.sipush 256, 3) := by decide +kernel
theorem dX8_toldAt_8 : decode cX8_toldAt 8 = .ok (.if_icmp .ge 24, 3) := by decide +kernel
theorem dX8_toldAt_11 : decode cX8_toldAt 11 = .ok (.iload_n 2, 1) := by decide +kernel
theorem dX8_toldAt_12 : decode cX8_toldAt 12 = .ok (.aload_n 0, 1) := by decide +kernel
theorem dX8_toldAt_13 : decode cX8_toldAt 13 = .ok (.getfield 7, 3) := by decide +kernel
theorem dX8_toldAt_16 : decode cX8_toldAt 16 = .ok (.iload_n 3, 1) := by decide +kernel
theorem dX8_toldAt_17 : decode cX8_toldAt 17 = .ok (.iaload, 1) := by decide +kernel
theorem dX8_toldAt_18 : decode cX8_toldAt 18 = .ok (.isub, 1) := by decide +kernel
theorem dX8_toldAt_19 : decode cX8_toldAt 19 = .ok (.istore_n 2, 1) := by decide +kernel
theorem dX8_toldAt_20 : decode cX8_toldAt 20 = .ok (.iload_n 2, 1) := by decide +kernel
