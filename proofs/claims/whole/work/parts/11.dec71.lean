theorem dX7_who_59 : decode cX7_who 59 = .ok (.ifCond .eq 12, 3) := by decide +kernel
theorem dX7_who_62 : decode cX7_who 62 = .ok (.iload 4, 2) := by decide +kernel
theorem dX7_who_64 : decode cX7_who 64 = .ok (.iconst 1, 1) := by decide +kernel
theorem dX7_who_65 : decode cX7_who 65 = .ok (.iload 5, 2) := by decide +kernel
theorem dX7_who_67 : decode cX7_who 67 = .ok (.ishl, 1) := by decide +kernel
theorem dX7_who_68 : decode cX7_who 68 = .ok (.ior, 1) := by decide +kernel
theorem dX7_who_69 : decode cX7_who 69 = .ok (.istore 4, 2) := by decide +kernel
theorem dX7_who_71 : decode cX7_who 71 = .ok (.iinc 5 1, 3) := by decide +kernel
theorem dX7_who_74 : decode cX7_who 74 = .ok (.goto (-41), 3) := by decide +kernel
theorem dX7_who_77 : decode cX7_who 77 = .ok (.iload 4, 2) := by decide +kernel
theorem dX7_who_79 : decode cX7_who 79 = .ok (.ireturn, 1) := by decide +kernel
theorem dX7_kinds_0 : decode cX7_kinds 0 = .ok (.aload_n 0, 1) := by decide +kernel
theorem dX7_kinds_1 : decode cX7_kinds 1 = .ok (.getfield 13, 3) := by decide +kernel
theorem dX7_kinds_4 : decode cX7_kinds 4 = .ok (.iload_n 1, 1) := by decide +kernel
theorem dX7_kinds_5 : decode cX7_kinds 5 = .ok (.invokestatic 64, 3) := by decide +kernel
theorem dX7_kinds_8 : decode cX7_kinds 8 = .ok (.astore_n 2, 1) := by decide +kernel
theorem dX7_kinds_9 : decode cX7_kinds 9 = .ok (.aload_n 2, 1) := by decide +kernel
theorem dX7_kinds_10 : decode cX7_kinds 10 = .ok (.ifnonnull 5, 3) := by decide +kernel
theorem dX7_kinds_13 : decode cX7_kinds 13 = .ok (.iconst (-1), 1) := by decide +kernel
theorem dX7_kinds_14 : decode cX7_kinds 14 = .ok (.ireturn, 1) := by decide +kernel
theorem dX7_kinds_15 : decode cX7_kinds 15 = .ok (.aload_n 0, 1) := by decide +kernel
theorem dX7_kinds_16 : decode cX7_kinds 16 = .ok (.aload_n 2, 1) := by decide +kernel
theorem dX7_kinds_17 : decode cX7_kinds 17 = .ok (.invokevirtual 247, 3) := by decide +kernel
theorem dX7_kinds_20 : decode cX7_kinds 20 = .ok (.istore_n 3, 1) := by decide +kernel
theorem dX7_kinds_21 : decode cX7_kinds 21 = .ok (.iload_n 3, 1) := by decide +kernel
theorem dX7_kinds_22 : decode cX7_kinds 22 = .ok (.ifCond .eq 7, 3) := by decide +kernel
theorem dX7_kinds_25 : decode cX7_kinds 25 = .ok (.iload_n 3, 1) := by decide +kernel
theorem dX7_kinds_26 : decode cX7_kinds 26 = .ok (.goto 7, 3) := by decide +kernel
theorem dX7_kinds_29 : decode cX7_kinds 29 = .ok (.aload_n 2, 1) := by decide +kernel
theorem dX7_kinds_30 : decode cX7_kinds 30 = .ok (.invokestatic 256, 3) := by decide +kernel
theorem dX7_kinds_33 : decode cX7_kinds 33 = .ok (.ireturn, 1) := by decide +kernel
theorem dX7_test_0 : decode cX7_test 0 = .ok (.aload_n 0, 1) := by decide +kernel
theorem dX7_test_1 : decode cX7_test 1 = .ok (.getfield 13, 3) := by decide +kernel
theorem dX7_test_4 : decode cX7_test 4 = .ok (.iload_n 1, 1) := by decide +kernel
theorem dX7_test_5 : decode cX7_test 5 = .ok (.invokestatic 64, 3) := by decide +kernel
theorem dX7_test_8 : decode cX7_test 8 = .ok (.astore_n 2, 1) := by decide +kernel
theorem dX7_test_9 : decode cX7_test 9 = .ok (.aload_n 2, 1) := by decide +kernel
theorem dX7_test_10 : decode cX7_test 10 = .ok (.ifnonnull 5, 3) := by decide +kernel
theorem dX7_test_13 : decode cX7_test 13 = .ok (.iconst (-1), 1) := by decide +kernel
theorem dX7_test_14 : decode cX7_test 14 = .ok (.ireturn, 1) := by decide +kernel
theorem dX7_test_15 : decode cX7_test 15 = .ok (.aload_n 0, 1) := by decide +kernel
theorem dX7_test_16 : decode cX7_test 16 = .ok (.aload_n 2, 1) := by decide +kernel
theorem dX7_test_17 : decode cX7_test 17 = .ok (.invokevirtual 247, 3) := by decide +kernel
theorem dX7_test_20 : decode cX7_test 20 = .ok (.istore_n 3, 1) := by decide +kernel
theorem dX7_test_21 : decode cX7_test 21 = .ok (.iload_n 3, 1) := by decide +kernel
theorem dX7_test_22 : decode cX7_test 22 = .ok (.ifCond .eq 5, 3) := by decide +kernel
theorem dX7_test_25 : decode cX7_test 25 = .ok (.iload_n 3, 1) := by decide +kernel
theorem dX7_test_26 : decode cX7_test 26 = .ok (.ireturn, 1) := by decide +kernel
theorem dX7_test_27 : decode cX7_test 27 = .ok (.aload_n 2, 1) := by decide +kernel
theorem dX7_test_28 : decode cX7_test 28 = .ok (.invokestatic 256, 3) := by decide +kernel
theorem dX7_test_31 : decode cX7_test 31 = .ok (.istore 4, 2) := by decide +kernel
theorem dX7_test_33 : decode cX7_test 33 = .ok (.iload 4, 2) := by decide +kernel
theorem dX7_test_35 : decode cX7_test 35 = .ok (.ifCond .ne 6, 3) := by decide +kernel
theorem dX7_test_38 : decode cX7_test 38 = .ok (.bipush (-9), 2) := by decide +kernel
theorem dX7_test_40 : decode cX7_test 40 = .ok (.ireturn, 1) := by decide +kernel
theorem dX7_test_41 : decode cX7_test 41 = .ok (.iconst 0, 1) := by decide +kernel
theorem dX7_test_42 : decode cX7_test 42 = .ok (.istore 5, 2) := by decide +kernel
theorem dX7_test_44 : decode cX7_test 44 = .ok (.bipush 7, 2) := by decide +kernel
theorem dX7_test_46 : decode cX7_test 46 = .ok (.istore 6, 2) := by decide +kernel
theorem dX7_test_48 : decode cX7_test 48 = .ok (.iconst 0, 1) := by decide +kernel
theorem dX7_test_49 : decode cX7_test 49 = .ok (.istore 7, 2) := by decide +kernel
theorem dX7_test_51 : decode cX7_test 51 = .ok (.iload 7, 2) := by decide +kernel
theorem dX7_test_53 : decode cX7_test 53 = .ok (.bipush 99, 2) := by decide +kernel
theorem dX7_test_55 : decode cX7_test 55 = .ok (.if_icmp .gt 33, 3) := by decide +kernel
theorem dX7_test_58 : decode cX7_test 58 = .ok (.iload 4, 2) := by decide +kernel
theorem dX7_test_60 : decode cX7_test 60 = .ok (.iload 7, 2) := by decide +kernel
theorem dX7_test_62 : decode cX7_test 62 = .ok (.invokestatic 259, 3) := by decide +kernel
theorem dX7_test_65 : decode cX7_test 65 = .ok (.istore 8, 2) := by decide +kernel
theorem dX7_test_67 : decode cX7_test 67 = .ok (.iload 8, 2) := by decide +kernel
theorem dX7_test_69 : decode cX7_test 69 = .ok (.iload 6, 2) := by decide +kernel
theorem dX7_test_71 : decode cX7_test 71 = .ok (.if_icmp .ge 11, 3) := by decide +kernel
theorem dX7_test_74 : decode cX7_test 74 = .ok (.iload 8, 2) := by decide +kernel
theorem dX7_test_76 : decode cX7_test 76 = .ok (.istore 6, 2) := by decide +kernel
theorem dX7_test_78 : decode cX7_test 78 = .ok (.iload 7, 2) := by decide +kernel
theorem dX7_test_80 : decode cX7_test 80 = .ok (.istore 5, 2) := by decide +kernel
theorem dX7_test_82 : decode cX7_test 82 = .ok (.iinc 7 1, 3) := by decide +kernel
theorem dX7_test_85 : decode cX7_test 85 = .ok (.goto (-34), 3) := by decide +kernel
theorem dX7_test_88 : decode cX7_test 88 = .ok (.aload_n 0, 1) := by decide +kernel
theorem dX7_test_89 : decode cX7_test 89 = .ok (.iload 6, 2) := by decide +kernel
theorem dX7_test_91 : decode cX7_test 91 = .ok (.putfield 82, 3) := by decide +kernel
theorem dX7_test_94 : decode cX7_test 94 = .ok (.iload 5, 2) := by decide +kernel
theorem dX7_test_96 : decode cX7_test 96 = .ok (.ireturn, 1) := by decide +kernel
theorem dX7_leaks_0 : decode cX7_leaks 0 = .ok (.aload_n 0, 1) := by decide +kernel
theorem dX7_leaks_1 : decode cX7_leaks 1 = .ok (.getfield 13, 3) := by decide +kernel
theorem dX7_leaks_4 : decode cX7_leaks 4 = .ok (.iload_n 1, 1) := by decide +kernel
theorem dX7_leaks_5 : decode cX7_leaks 5 = .ok (.invokestatic 64, 3) := by decide +kernel
theorem dX7_leaks_8 : decode cX7_leaks 8 = .ok (.astore_n 2, 1) := by decide +kernel
theorem dX7_leaks_9 : decode cX7_leaks 9 = .ok (.aload_n 2, 1) := by decide +kernel
theorem dX7_leaks_10 : decode cX7_leaks 10 = .ok (.ifnonnull 5, 3) := by decide +kernel
theorem dX7_leaks_13 : decode cX7_leaks 13 = .ok (.iconst (-1), 1) := by decide +kernel
theorem dX7_leaks_14 : decode cX7_leaks 14 = .ok (.ireturn, 1) := by decide +kernel
theorem dX7_leaks_15 : decode cX7_leaks 15 = .ok (.aload_n 2, 1) := by decide +kernel
theorem dX7_leaks_16 : decode cX7_leaks 16 = .ok (.invokevirtual 89, 3) := by decide +kernel
theorem dX7_leaks_19 : decode cX7_leaks 19 = .ok (.ifCond .ne 9, 3) := by decide +kernel
theorem dX7_leaks_22 : decode cX7_leaks 22 = .ok (.aload_n 0, 1) := by decide +kernel
theorem dX7_leaks_23 : decode cX7_leaks 23 = .ok (.iconst 1, 1) := by decide +kernel
theorem dX7_leaks_24 : decode cX7_leaks 24 = .ok (.invokevirtual 93, 3) := by decide +kernel
theorem dX7_leaks_27 : decode cX7_leaks 27 = .ok (.ireturn, 1) := by decide +kernel
theorem dX7_leaks_28 : decode cX7_leaks 28 = .ok (.aload_n 2, 1) := by decide +kernel
theorem dX7_leaks_29 : decode cX7_leaks 29 = .ok (.getfield 96, 3) := by decide +kernel
theorem dX7_leaks_32 : decode cX7_leaks 32 = .ok (.ifCond .ne 9, 3) := by decide +kernel
theorem dX7_leaks_35 : decode cX7_leaks 35 = .ok (.aload_n 0, 1) := by decide +kernel
theorem dX7_leaks_36 : decode cX7_leaks 36 = .ok (.iconst 5, 1) := by decide +kernel
theorem dX7_leaks_37 : decode cX7_leaks 37 = .ok (.invokevirtual 93, 3) := by decide +kernel
theorem dX7_leaks_40 : decode cX7_leaks 40 = .ok (.ireturn, 1) := by decide +kernel
theorem dX7_leaks_41 : decode cX7_leaks 41 = .ok (.aload_n 2, 1) := by decide +kernel
theorem dX7_leaks_42 : decode cX7_leaks 42 = .ok (.iconst 0, 1) := by decide +kernel
theorem dX7_leaks_43 : decode cX7_leaks 43 = .ok (.sipush 999, 3) := by decide +kernel
theorem dX7_leaks_46 : decode cX7_leaks 46 = .ok (.invokevirtual 262, 3) := by decide +kernel
theorem dX7_leaks_49 : decode cX7_leaks 49 = .ok (.ifCond .ne 9, 3) := by decide +kernel
theorem dX7_leaks_52 : decode cX7_leaks 52 = .ok (.aload_n 0, 1) := by decide +kernel
theorem dX7_leaks_53 : decode cX7_leaks 53 = .ok (.iconst 3, 1) := by decide +kernel
theorem dX7_leaks_54 : decode cX7_leaks 54 = .ok (.invokevirtual 93, 3) := by decide +kernel
theorem dX7_leaks_57 : decode cX7_leaks 57 = .ok (.ireturn, 1) := by decide +kernel
theorem dX7_leaks_58 : decode cX7_leaks 58 = .ok (.iconst 0, 1) := by decide +kernel
theorem dX7_leaks_59 : decode cX7_leaks 59 = .ok (.istore_n 3, 1) := by decide +kernel
theorem dX7_leaks_60 : decode cX7_leaks 60 = .ok (.iconst 0, 1) := by decide +kernel
theorem dX7_leaks_61 : decode cX7_leaks 61 = .ok (.istore 4, 2) := by decide +kernel
theorem dX7_leaks_63 : decode cX7_leaks 63 = .ok (.iload 4, 2) := by decide +kernel
theorem dX7_leaks_65 : decode cX7_leaks 65 = .ok (.bipush 9, 2) := by decide +kernel
theorem dX7_leaks_67 : decode cX7_leaks 67 = .ok (.if_icmp .gt 25, 3) := by decide +kernel
theorem dX7_leaks_70 : decode cX7_leaks 70 = .ok (.aload_n 2, 1) := by decide +kernel
theorem dX7_leaks_71 : decode cX7_leaks 71 = .ok (.iload 4, 2) := by decide +kernel
theorem dX7_leaks_73 : decode cX7_leaks 73 = .ok (.invokestatic 265, 3) := by decide +kernel
theorem dX7_leaks_76 : decode cX7_leaks 76 = .ok (.ifCond .eq 10, 3) := by decide +kernel
theorem dX7_leaks_79 : decode cX7_leaks 79 = .ok (.iload_n 3, 1) := by decide +kernel
theorem dX7_leaks_80 : decode cX7_leaks 80 = .ok (.iconst 1, 1) := by decide +kernel
theorem dX7_leaks_81 : decode cX7_leaks 81 = .ok (.iload 4, 2) := by decide +kernel
theorem dX7_leaks_83 : decode cX7_leaks 83 = .ok (.ishl, 1) := by decide +kernel
theorem dX7_leaks_84 : decode cX7_leaks 84 = .ok (.ior, 1) := by decide +kernel
theorem dX7_leaks_85 : decode cX7_leaks 85 = .ok (.istore_n 3, 1) := by decide +kernel
theorem dX7_leaks_86 : decode cX7_leaks 86 = .ok (.iinc 4 1, 3) := by decide +kernel
theorem dX7_leaks_89 : decode cX7_leaks 89 = .ok (.goto (-26), 3) := by decide +kernel
theorem dX7_leaks_92 : decode cX7_leaks 92 = .ok (.iload_n 3, 1) := by decide +kernel
theorem dX7_leaks_93 : decode cX7_leaks 93 = .ok (.ireturn, 1) := by decide +kernel
theorem dX7_evening_0 : decode cX7_evening 0 = .ok (.iload_n 1, 1) := by decide +kernel
theorem dX7_evening_1 : decode cX7_evening 1 = .ok (.invokestatic 167, 3) := by decide +kernel
theorem dX7_evening_4 : decode cX7_evening 4 = .ok (.ifCond .eq 12, 3) := by decide +kernel
theorem dX7_evening_7 : decode cX7_evening 7 = .ok (.iload_n 2, 1) := by decide +kernel
theorem dX7_evening_8 : decode cX7_evening 8 = .ok (.iconst 0, 1) := by decide +kernel
theorem dX7_evening_9 : decode cX7_evening 9 = .ok (.iconst 2, 1) := by decide +kernel
theorem dX7_evening_10 : decode cX7_evening 10 = .ok (.invokestatic 130, 3) := by decide +kernel
theorem dX7_evening_13 : decode cX7_evening 13 = .ok (.ifCond .ne 5, 3) := by decide +kernel
theorem dX7_evening_16 : decode cX7_evening 16 = .ok (.iconst (-1), 1) := by decide +kernel
theorem dX7_evening_17 : decode cX7_evening 17 = .ok (.ireturn, 1) := by decide +kernel
theorem dX7_evening_18 : decode cX7_evening 18 = .ok (.aload_n 0, 1) := by decide +kernel
theorem dX7_evening_19 : decode cX7_evening 19 = .ok (.getfield 23, 3) := by decide +kernel
theorem dX7_evening_22 : decode cX7_evening 22 = .ok (.getfield 123, 3) := by decide +kernel
theorem dX7_evening_25 : decode cX7_evening 25 = .ok (.ifCond .ne 6, 3) := by decide +kernel
theorem dX7_evening_28 : decode cX7_evening 28 = .ok (.bipush (-4), 2) := by decide +kernel
theorem dX7_evening_30 : decode cX7_evening 30 = .ok (.ireturn, 1) := by decide +kernel
theorem dX7_evening_31 : decode cX7_evening 31 = .ok (.aload_n 0, 1) := by decide +kernel
theorem dX7_evening_32 : decode cX7_evening 32 = .ok (.getfield 45, 3) := by decide +kernel
theorem dX7_evening_35 : decode cX7_evening 35 = .ok (.aload_n 0, 1) := by decide +kernel
theorem dX7_evening_36 : decode cX7_evening 36 = .ok (.getfield 23, 3) := by decide +kernel
theorem dX7_evening_39 : decode cX7_evening 39 = .ok (.iload_n 1, 1) := by decide +kernel
theorem dX7_evening_40 : decode cX7_evening 40 = .ok (.iload_n 2, 1) := by decide +kernel
theorem dX7_evening_41 : decode cX7_evening 41 = .ok (.invokevirtual 268, 3) := by decide +kernel
theorem dX7_evening_44 : decode cX7_evening 44 = .ok (.ireturn, 1) := by decide +kernel
theorem dX7_odds_0 : decode cX7_odds 0 = .ok (.iload_n 1, 1) := by decide +kernel
theorem dX7_odds_1 : decode cX7_odds 1 = .ok (.iconst 0, 1) := by decide +kernel
theorem dX7_odds_2 : decode cX7_odds 2 = .ok (.sipush 7992, 3) := by decide +kernel
theorem dX7_odds_5 : decode cX7_odds 5 = .ok (.invokestatic 130, 3) := by decide +kernel
theorem dX7_odds_8 : decode cX7_odds 8 = .ok (.ifCond .eq 11, 3) := by decide +kernel
theorem dX7_odds_11 : decode cX7_odds 11 = .ok (.iload_n 2, 1) := by decide +kernel
theorem dX7_odds_12 : decode cX7_odds 12 = .ok (.iload_n 3, 1) := by decide +kernel
theorem dX7_odds_13 : decode cX7_odds 13 = .ok (.invokestatic 272, 3) := by decide +kernel
theorem dX7_odds_16 : decode cX7_odds 16 = .ok (.ifCond .ne 5, 3) := by decide +kernel
theorem dX7_odds_19 : decode cX7_odds 19 = .ok (.iconst (-1), 1) := by decide +kernel
theorem dX7_odds_20 : decode cX7_odds 20 = .ok (.ireturn, 1) := by decide +kernel
theorem dX7_odds_21 : decode cX7_odds 21 = .ok (.aload_n 0, 1) := by decide +kernel
theorem dX7_odds_22 : decode cX7_odds 22 = .ok (.getfield 23, 3) := by decide +kernel
theorem dX7_odds_25 : decode cX7_odds 25 = .ok (.getfield 123, 3) := by decide +kernel
theorem dX7_odds_28 : decode cX7_odds 28 = .ok (.ifCond .ne 6, 3) := by decide +kernel
theorem dX7_odds_31 : decode cX7_odds 31 = .ok (.bipush (-4), 2) := by decide +kernel
theorem dX7_odds_33 : decode cX7_odds 33 = .ok (.ireturn, 1) := by decide +kernel
theorem dX7_odds_34 : decode cX7_odds 34 = .ok (.iconst 0, 1) := by decide +kernel
theorem dX7_odds_35 : decode cX7_odds 35 = .ok (.istore 4, 2) := by decide +kernel
theorem dX7_odds_37 : decode cX7_odds 37 = .ok (.iload 4, 2) := by decide +kernel
theorem dX7_odds_39 : decode cX7_odds 39 = .ok (.iload_n 2, 1) := by decide +kernel
theorem dX7_odds_40 : decode cX7_odds 40 = .ok (.if_icmp .gt 34, 3) := by decide +kernel
theorem dX7_odds_43 : decode cX7_odds 43 = .ok (.aload_n 0, 1) := by decide +kernel
theorem dX7_odds_44 : decode cX7_odds 44 = .ok (.getfield 53, 3) := by decide +kernel
theorem dX7_odds_47 : decode cX7_odds 47 = .ok (.iload 4, 2) := by decide +kernel
theorem dX7_odds_49 : decode cX7_odds 49 = .ok (.aload_n 0, 1) := by decide +kernel
theorem dX7_odds_50 : decode cX7_odds 50 = .ok (.getfield 23, 3) := by decide +kernel
theorem dX7_odds_53 : decode cX7_odds 53 = .ok (.iload 4, 2) := by decide +kernel
theorem dX7_odds_55 : decode cX7_odds 55 = .ok (.invokevirtual 275, 3) := by decide +kernel
theorem dX7_odds_58 : decode cX7_odds 58 = .ok (.iload_n 1, 1) := by decide +kernel
theorem dX7_odds_59 : decode cX7_odds 59 = .ok (.if_icmp .lt 7, 3) := by decide +kernel
theorem dX7_odds_62 : decode cX7_odds 62 = .ok (.lconst 1, 1) := by decide +kernel
theorem dX7_odds_63 : decode cX7_odds 63 = .ok (.goto 4, 3) := by decide +kernel
theorem dX7_odds_66 : decode cX7_odds 66 = .ok (.lconst 0, 1) := by decide +kernel
theorem dX7_odds_67 : decode cX7_odds 67 = .ok (.lastore, 1) := by decide +kernel
theorem dX7_odds_68 : decode cX7_odds 68 = .ok (.iinc 4 1, 3) := by decide +kernel
theorem dX7_odds_71 : decode cX7_odds 71 = .ok (.goto (-34), 3) := by decide +kernel
theorem dX7_odds_74 : decode cX7_odds 74 = .ok (.aload_n 0, 1) := by decide +kernel
theorem dX7_odds_75 : decode cX7_odds 75 = .ok (.iload_n 2, 1) := by decide +kernel
theorem dX7_odds_76 : decode cX7_odds 76 = .ok (.iload_n 3, 1) := by decide +kernel
theorem dX7_odds_77 : decode cX7_odds 77 = .ok (.invokevirtual 278, 3) := by decide +kernel
theorem dX7_odds_80 : decode cX7_odds 80 = .ok (.iconst 1, 1) := by decide +kernel
theorem dX7_odds_81 : decode cX7_odds 81 = .ok (.ireturn, 1) := by decide +kernel
theorem dX7_mid_0 : decode cX7_mid 0 = .ok (.iload_n 1, 1) := by decide +kernel
theorem dX7_mid_1 : decode cX7_mid 1 = .ok (.iload_n 2, 1) := by decide +kernel
theorem dX7_mid_2 : decode cX7_mid 2 = .ok (.invokestatic 272, 3) := by decide +kernel
theorem dX7_mid_5 : decode cX7_mid 5 = .ok (.ifCond .ne 5, 3) := by decide +kernel
theorem dX7_mid_8 : decode cX7_mid 8 = .ok (.iconst (-1), 1) := by decide +kernel
theorem dX7_mid_9 : decode cX7_mid 9 = .ok (.ireturn, 1) := by decide +kernel
theorem dX7_mid_10 : decode cX7_mid 10 = .ok (.aload_n 0, 1) := by decide +kernel
theorem dX7_mid_11 : decode cX7_mid 11 = .ok (.getfield 23, 3) := by decide +kernel
theorem dX7_mid_14 : decode cX7_mid 14 = .ok (.getfield 123, 3) := by decide +kernel
theorem dX7_mid_17 : decode cX7_mid 17 = .ok (.ifCond .ne 6, 3) := by decide +kernel
theorem dX7_mid_20 : decode cX7_mid 20 = .ok (.bipush (-4), 2) := by decide +kernel
theorem dX7_mid_22 : decode cX7_mid 22 = .ok (.ireturn, 1) := by decide +kernel
theorem dX7_mid_23 : decode cX7_mid 23 = .ok (.iconst 0, 1) := by decide +kernel
theorem dX7_mid_24 : decode cX7_mid 24 = .ok (.istore_n 3, 1) := by decide +kernel
theorem dX7_mid_25 : decode cX7_mid 25 = .ok (.iload_n 3, 1) := by decide +kernel
theorem dX7_mid_26 : decode cX7_mid 26 = .ok (.iload_n 1, 1) := by decide +kernel
theorem dX7_mid_27 : decode cX7_mid 27 = .ok (.if_icmp .gt 24, 3) := by decide +kernel
theorem dX7_mid_30 : decode cX7_mid 30 = .ok (.aload_n 0, 1) := by decide +kernel
theorem dX7_mid_31 : decode cX7_mid 31 = .ok (.getfield 53, 3) := by decide +kernel
theorem dX7_mid_34 : decode cX7_mid 34 = .ok (.iload_n 3, 1) := by decide +kernel
theorem dX7_mid_35 : decode cX7_mid 35 = .ok (.aload_n 0, 1) := by decide +kernel
theorem dX7_mid_36 : decode cX7_mid 36 = .ok (.getfield 23, 3) := by decide +kernel
theorem dX7_mid_39 : decode cX7_mid 39 = .ok (.iload_n 3, 1) := by decide +kernel
theorem dX7_mid_40 : decode cX7_mid 40 = .ok (.invokevirtual 275, 3) := by decide +kernel
theorem dX7_mid_43 : decode cX7_mid 43 = .ok (.i2l, 1) := by decide +kernel
theorem dX7_mid_44 : decode cX7_mid 44 = .ok (.lastore, 1) := by decide +kernel
theorem dX7_mid_45 : decode cX7_mid 45 = .ok (.iinc 3 1, 3) := by decide +kernel
theorem dX7_mid_48 : decode cX7_mid 48 = .ok (.goto (-23), 3) := by decide +kernel
theorem dX7_mid_51 : decode cX7_mid 51 = .ok (.aload_n 0, 1) := by decide +kernel
theorem dX7_mid_52 : decode cX7_mid 52 = .ok (.iload_n 1, 1) := by decide +kernel
theorem dX7_mid_53 : decode cX7_mid 53 = .ok (.iload_n 2, 1) := by decide +kernel
theorem dX7_mid_54 : decode cX7_mid 54 = .ok (.invokevirtual 278, 3) := by decide +kernel
theorem dX7_mid_57 : decode cX7_mid 57 = .ok (.iconst 1, 1) := by decide +kernel
theorem dX7_mid_58 : decode cX7_mid 58 = .ok (.ireturn, 1) := by decide +kernel
theorem dX7_lots_0 : decode cX7_lots 0 = .ok (.iload_n 1, 1) := by decide +kernel
theorem dX7_lots_1 : decode cX7_lots 1 = .ok (.iconst 1, 1) := by decide +kernel
theorem dX7_lots_2 : decode cX7_lots 2 = .ok (.bipush 20, 2) := by decide +kernel
theorem dX7_lots_4 : decode cX7_lots 4 = .ok (.invokestatic 130, 3) := by decide +kernel
theorem dX7_lots_7 : decode cX7_lots 7 = .ok (.ifCond .eq 14, 3) := by decide +kernel
theorem dX7_lots_10 : decode cX7_lots 10 = .ok (.iload_n 2, 1) := by decide +kernel
theorem dX7_lots_11 : decode cX7_lots 11 = .ok (.iconst 1, 1) := by decide +kernel
theorem dX7_lots_12 : decode cX7_lots 12 = .ok (.ldc_w 281, 3) := by decide +kernel
theorem dX7_lots_15 : decode cX7_lots 15 = .ok (.invokestatic 130, 3) := by decide +kernel
theorem dX7_lots_18 : decode cX7_lots 18 = .ok (.ifCond .ne 5, 3) := by decide +kernel
theorem dX7_lots_21 : decode cX7_lots 21 = .ok (.iconst (-1), 1) := by decide +kernel
theorem dX7_lots_22 : decode cX7_lots 22 = .ok (.ireturn, 1) := by decide +kernel
theorem dX7_lots_23 : decode cX7_lots 23 = .ok (.aload_n 0, 1) := by decide +kernel
theorem dX7_lots_24 : decode cX7_lots 24 = .ok (.getfield 23, 3) := by decide +kernel
theorem dX7_lots_27 : decode cX7_lots 27 = .ok (.getfield 123, 3) := by decide +kernel
theorem dX7_lots_30 : decode cX7_lots 30 = .ok (.ifCond .ne 6, 3) := by decide +kernel
theorem dX7_lots_33 : decode cX7_lots 33 = .ok (.bipush (-4), 2) := by decide +kernel
theorem dX7_lots_35 : decode cX7_lots 35 = .ok (.ireturn, 1) := by decide +kernel
theorem dX7_lots_36 : decode cX7_lots 36 = .ok (.aload_n 0, 1) := by decide +kernel
theorem dX7_lots_37 : decode cX7_lots 37 = .ok (.getfield 30, 3) := by decide +kernel
theorem dX7_lots_40 : decode cX7_lots 40 = .ok (.getfield 34, 3) := by decide +kernel
theorem dX7_lots_43 : decode cX7_lots 43 = .ok (.iload_n 1, 1) := by decide +kernel
theorem dX7_lots_44 : decode cX7_lots 44 = .ok (.iadd, 1) := by decide +kernel
theorem dX7_lots_45 : decode cX7_lots 45 = .ok (.bipush 40, 2) := by decide +kernel
theorem dX7_lots_47 : decode cX7_lots 47 = .ok (.if_icmp .le 6, 3) := by decide +kernel
theorem dX7_lots_50 : decode cX7_lots 50 = .ok (.bipush (-2), 2) := by decide +kernel
theorem dX7_lots_52 : decode cX7_lots 52 = .ok (.ireturn, 1) := by decide +kernel
theorem dX7_lots_53 : decode cX7_lots 53 = .ok (.iload_n 2, 1) := by decide +kernel
theorem dX7_lots_54 : decode cX7_lots 54 = .ok (.istore_n 3, 1) := by decide +kernel
theorem dX7_lots_55 : decode cX7_lots 55 = .ok (.iconst 0, 1) := by decide +kernel
theorem dX7_lots_56 : decode cX7_lots 56 = .ok (.istore 4, 2) := by decide +kernel
theorem dX7_lots_58 : decode cX7_lots 58 = .ok (.iload 4, 2) := by decide +kernel
theorem dX7_lots_60 : decode cX7_lots 60 = .ok (.iload_n 1, 1) := by decide +kernel
theorem dX7_lots_61 : decode cX7_lots 61 = .ok (.if_icmp .ge 26, 3) := by decide +kernel
theorem dX7_lots_64 : decode cX7_lots 64 = .ok (.iload_n 3, 1) := by decide +kernel
theorem dX7_lots_65 : decode cX7_lots 65 = .ok (.i2l, 1) := by decide +kernel
theorem dX7_lots_66 : decode cX7_lots 66 = .ok (.ldc2_w 282, 3) := by decide +kernel
theorem dX7_lots_69 : decode cX7_lots 69 = .ok (.lmul, 1) := by decide +kernel
theorem dX7_lots_70 : decode cX7_lots 70 = .ok (.ldc2_w 284, 3) := by decide +kernel
theorem dX7_lots_73 : decode cX7_lots 73 = .ok (.lrem, 1) := by decide +kernel
theorem dX7_lots_74 : decode cX7_lots 74 = .ok (.l2i, 1) := by decide +kernel
theorem dX7_lots_75 : decode cX7_lots 75 = .ok (.istore_n 3, 1) := by decide +kernel
theorem dX7_lots_76 : decode cX7_lots 76 = .ok (.aload_n 0, 1) := by decide +kernel
theorem dX7_lots_77 : decode cX7_lots 77 = .ok (.iload_n 3, 1) := by decide +kernel
theorem dX7_lots_78 : decode cX7_lots 78 = .ok (.invokevirtual 286, 3) := by decide +kernel
theorem dX7_lots_81 : decode cX7_lots 81 = .ok (.iinc 4 1, 3) := by decide +kernel
theorem dX7_lots_84 : decode cX7_lots 84 = .ok (.goto (-26), 3) := by decide +kernel
theorem dX7_lots_87 : decode cX7_lots 87 = .ok (.aload_n 0, 1) := by decide +kernel
theorem dX7_lots_88 : decode cX7_lots 88 = .ok (.getfield 23, 3) := by decide +kernel
theorem dX7_lots_91 : decode cX7_lots 91 = .ok (.invokevirtual 177, 3) := by decide +kernel
theorem dX7_lots_94 : decode cX7_lots 94 = .ok (.ireturn, 1) := by decide +kernel
theorem dX7_asked_0 : decode cX7_asked 0 = .ok (.aload_n 0, 1) := by decide +kernel
theorem dX7_asked_1 : decode cX7_asked 1 = .ok (.getfield 82, 3) := by decide +kernel
theorem dX7_asked_4 : decode cX7_asked 4 = .ok (.ireturn, 1) := by decide +kernel
theorem dX7_upper_0 : decode cX7_upper 0 = .ok (.aload_n 0, 1) := by decide +kernel
theorem dX7_upper_1 : decode cX7_upper 1 = .ok (.getfield 289, 3) := by decide +kernel
theorem dX7_upper_4 : decode cX7_upper 4 = .ok (.lreturn, 1) := by decide +kernel
theorem dX7_lower_0 : decode cX7_lower 0 = .ok (.aload_n 0, 1) := by decide +kernel
theorem dX7_lower_1 : decode cX7_lower 1 = .ok (.getfield 60, 3) := by decide +kernel
theorem dX7_lower_4 : decode cX7_lower 4 = .ok (.lreturn, 1) := by decide +kernel
theorem dX7_count_0 : decode cX7_count 0 = .ok (.iload_n 1, 1) := by decide +kernel
theorem dX7_count_1 : decode cX7_count 1 = .ok (.tableswitch 170 0 12 #[67, 75, 83, 91, 99, 107, 115, 123, 131, 140, 149, 157, 165], 67) := by decide +kernel
theorem dX7_count_68 : decode cX7_count 68 = .ok (.aload_n 0, 1) := by decide +kernel
theorem dX7_count_69 : decode cX7_count 69 = .ok (.getfield 23, 3) := by decide +kernel
theorem dX7_count_72 : decode cX7_count 72 = .ok (.getfield 123, 3) := by decide +kernel
theorem dX7_count_75 : decode cX7_count 75 = .ok (.ireturn, 1) := by decide +kernel
theorem dX7_count_76 : decode cX7_count 76 = .ok (.aload_n 0, 1) := by decide +kernel
theorem dX7_count_77 : decode cX7_count 77 = .ok (.getfield 23, 3) := by decide +kernel
theorem dX7_count_80 : decode cX7_count 80 = .ok (.getfield 204, 3) := by decide +kernel
theorem dX7_count_83 : decode cX7_count 83 = .ok (.ireturn, 1) := by decide +kernel
theorem dX7_count_84 : decode cX7_count 84 = .ok (.aload_n 0, 1) := by decide +kernel
theorem dX7_count_85 : decode cX7_count 85 = .ok (.getfield 23, 3) := by decide +kernel
theorem dX7_count_88 : decode cX7_count 88 = .ok (.getfield 292, 3) := by decide +kernel
theorem dX7_count_91 : decode cX7_count 91 = .ok (.ireturn, 1) := by decide +kernel
theorem dX7_count_92 : decode cX7_count 92 = .ok (.aload_n 0, 1) := by decide +kernel
theorem dX7_count_93 : decode cX7_count 93 = .ok (.getfield 30, 3) := by decide +kernel
theorem dX7_count_96 : decode cX7_count 96 = .ok (.getfield 34, 3) := by decide +kernel
theorem dX7_count_99 : decode cX7_count 99 = .ok (.ireturn, 1) := by decide +kernel
theorem dX7_count_100 : decode cX7_count 100 = .ok (.aload_n 0, 1) := by decide +kernel
theorem dX7_count_101 : decode cX7_count 101 = .ok (.getfield 23, 3) := by decide +kernel
theorem dX7_count_104 : decode cX7_count 104 = .ok (.invokevirtual 177, 3) := by decide +kernel
theorem dX7_count_107 : decode cX7_count 107 = .ok (.ireturn, 1) := by decide +kernel
theorem dX7_count_108 : decode cX7_count 108 = .ok (.aload_n 0, 1) := by decide +kernel
theorem dX7_count_109 : decode cX7_count 109 = .ok (.getfield 23, 3) := by decide +kernel
theorem dX7_count_112 : decode cX7_count 112 = .ok (.getfield 295, 3) := by decide +kernel
theorem dX7_count_115 : decode cX7_count 115 = .ok (.ireturn, 1) := by decide +kernel
theorem dX7_count_116 : decode cX7_count 116 = .ok (.aload_n 0, 1) := by decide +kernel
theorem dX7_count_117 : decode cX7_count 117 = .ok (.getfield 23, 3) := by decide +kernel
theorem dX7_count_120 : decode cX7_count 120 = .ok (.getfield 298, 3) := by decide +kernel
theorem dX7_count_123 : decode cX7_count 123 = .ok (.ireturn, 1) := by decide +kernel
theorem dX7_count_124 : decode cX7_count 124 = .ok (.aload_n 0, 1) := by decide +kernel
theorem dX7_count_125 : decode cX7_count 125 = .ok (.getfield 23, 3) := by decide +kernel
theorem dX7_count_128 : decode cX7_count 128 = .ok (.getfield 201, 3) := by decide +kernel
theorem dX7_count_131 : decode cX7_count 131 = .ok (.ireturn, 1) := by decide +kernel
theorem dX7_count_132 : decode cX7_count 132 = .ok (.aload_n 0, 1) := by decide +kernel
theorem dX7_count_133 : decode cX7_count 133 = .ok (.getfield 23, 3) := by decide +kernel
theorem dX7_count_136 : decode cX7_count 136 = .ok (.iconst 1, 1) := by decide +kernel
theorem dX7_count_137 : decode cX7_count 137 = .ok (.invokevirtual 301, 3) := by decide +kernel
theorem dX7_count_140 : decode cX7_count 140 = .ok (.ireturn, 1) := by decide +kernel
theorem dX7_count_141 : decode cX7_count 141 = .ok (.aload_n 0, 1) := by decide +kernel
theorem dX7_count_142 : decode cX7_count 142 = .ok (.getfield 23, 3) := by decide +kernel
theorem dX7_count_145 : decode cX7_count 145 = .ok (.iconst 2, 1) := by decide +kernel
theorem dX7_count_146 : decode cX7_count 146 = .ok (.invokevirtual 301, 3) := by decide +kernel
theorem dX7_count_149 : decode cX7_count 149 = .ok (.ireturn, 1) := by decide +kernel
theorem dX7_count_150 : decode cX7_count 150 = .ok (.aload_n 0, 1) := by decide +kernel
theorem dX7_count_151 : decode cX7_count 151 = .ok (.getfield 13, 3) := by decide +kernel
theorem dX7_count_154 : decode cX7_count 154 = .ok (.invokestatic 304, 3) := by decide +kernel
theorem dX7_count_157 : decode cX7_count 157 = .ok (.ireturn, 1) := by decide +kernel
theorem dX7_count_158 : decode cX7_count 158 = .ok (.aload_n 0, 1) := by decide +kernel
theorem dX7_count_159 : decode cX7_count 159 = .ok (.getfield 17, 3) := by decide +kernel
theorem dX7_count_162 : decode cX7_count 162 = .ok (.invokestatic 304, 3) := by decide +kernel
theorem dX7_count_165 : decode cX7_count 165 = .ok (.ireturn, 1) := by decide +kernel
theorem dX7_count_166 : decode cX7_count 166 = .ok (.aload_n 0, 1) := by decide +kernel
theorem dX7_count_167 : decode cX7_count 167 = .ok (.invokevirtual 308, 3) := by decide +kernel
theorem dX7_count_170 : decode cX7_count 170 = .ok (.ireturn, 1) := by decide +kernel
theorem dX7_count_171 : decode cX7_count 171 = .ok (.iconst (-1), 1) := by decide +kernel
theorem dX7_count_172 : decode cX7_count 172 = .ok (.ireturn, 1) := by decide +kernel
theorem dX7_finding_0 : decode cX7_finding 0 = .ok (.aload_n 0, 1) := by decide +kernel
theorem dX7_finding_1 : decode cX7_finding 1 = .ok (.getfield 311, 3) := by decide +kernel
theorem dX7_finding_4 : decode cX7_finding 4 = .ok (.ireturn, 1) := by decide +kernel
theorem dX7_findings_0 : decode cX7_findings 0 = .ok (.iload_n 1, 1) := by decide +kernel
theorem dX7_findings_1 : decode cX7_findings 1 = .ok (.iconst 1, 1) := by decide +kernel
theorem dX7_findings_2 : decode cX7_findings 2 = .ok (.iconst 5, 1) := by decide +kernel
theorem dX7_findings_3 : decode cX7_findings 3 = .ok (.invokestatic 130, 3) := by decide +kernel
theorem dX7_findings_6 : decode cX7_findings 6 = .ok (.ifCond .eq 12, 3) := by decide +kernel
theorem dX7_findings_9 : decode cX7_findings 9 = .ok (.aload_n 0, 1) := by decide +kernel
theorem dX7_findings_10 : decode cX7_findings 10 = .ok (.getfield 57, 3) := by decide +kernel
theorem dX7_findings_13 : decode cX7_findings 13 = .ok (.iload_n 1, 1) := by decide +kernel
theorem dX7_findings_14 : decode cX7_findings 14 = .ok (.iaload, 1) := by decide +kernel
theorem dX7_findings_15 : decode cX7_findings 15 = .ok (.goto 4, 3) := by decide +kernel
theorem dX7_findings_18 : decode cX7_findings 18 = .ok (.iconst (-1), 1) := by decide +kernel
theorem dX7_findings_19 : decode cX7_findings 19 = .ok (.ireturn, 1) := by decide +kernel
theorem dX7_digest_0 : decode cX7_digest 0 = .ok (.ldc2_w 314, 3) := by decide +kernel
theorem dX7_digest_3 : decode cX7_digest 3 = .ok (.lstore_n 1, 1) := by decide +kernel
theorem dX7_digest_4 : decode cX7_digest 4 = .ok (.iconst 0, 1) := by decide +kernel
theorem dX7_digest_5 : decode cX7_digest 5 = .ok (.istore_n 3, 1) := by decide +kernel
theorem dX7_digest_6 : decode cX7_digest 6 = .ok (.iload_n 3, 1) := by decide +kernel
theorem dX7_digest_7 : decode cX7_digest 7 = .ok (.bipush 13, 2) := by decide +kernel
theorem dX7_digest_9 : decode cX7_digest 9 = .ok (.if_icmp .ge 22, 3) := by decide +kernel
theorem dX7_digest_12 : decode cX7_digest 12 = .ok (.ldc2_w 316, 3) := by decide +kernel
theorem dX7_digest_15 : decode cX7_digest 15 = .ok (.lload_n 1, 1) := by decide +kernel
theorem dX7_digest_16 : decode cX7_digest 16 = .ok (.lmul, 1) := by decide +kernel
theorem dX7_digest_17 : decode cX7_digest 17 = .ok (.aload_n 0, 1) := by decide +kernel
theorem dX7_digest_18 : decode cX7_digest 18 = .ok (.iload_n 3, 1) := by decide +kernel
theorem dX7_digest_19 : decode cX7_digest 19 = .ok (.invokevirtual 318, 3) := by decide +kernel
theorem dX7_digest_22 : decode cX7_digest 22 = .ok (.i2l, 1) := by decide +kernel
theorem dX7_digest_23 : decode cX7_digest 23 = .ok (.ladd, 1) := by decide +kernel
theorem dX7_digest_24 : decode cX7_digest 24 = .ok (.lstore_n 1, 1) := by decide +kernel
theorem dX7_digest_25 : decode cX7_digest 25 = .ok (.iinc 3 1, 3) := by decide +kernel
theorem dX7_digest_28 : decode cX7_digest 28 = .ok (.goto (-22), 3) := by decide +kernel
theorem dX7_digest_31 : decode cX7_digest 31 = .ok (.iconst 0, 1) := by decide +kernel
theorem dX7_digest_32 : decode cX7_digest 32 = .ok (.istore_n 3, 1) := by decide +kernel
theorem dX7_digest_33 : decode cX7_digest 33 = .ok (.iload_n 3, 1) := by decide +kernel
theorem dX7_digest_34 : decode cX7_digest 34 = .ok (.aload_n 0, 1) := by decide +kernel
theorem dX7_digest_35 : decode cX7_digest 35 = .ok (.getfield 23, 3) := by decide +kernel
theorem dX7_digest_38 : decode cX7_digest 38 = .ok (.getfield 204, 3) := by decide +kernel
theorem dX7_digest_41 : decode cX7_digest 41 = .ok (.if_icmp .ge 26, 3) := by decide +kernel
theorem dX7_digest_44 : decode cX7_digest 44 = .ok (.ldc2_w 316, 3) := by decide +kernel
theorem dX7_digest_47 : decode cX7_digest 47 = .ok (.lload_n 1, 1) := by decide +kernel
theorem dX7_digest_48 : decode cX7_digest 48 = .ok (.lmul, 1) := by decide +kernel
theorem dX7_digest_49 : decode cX7_digest 49 = .ok (.aload_n 0, 1) := by decide +kernel
theorem dX7_digest_50 : decode cX7_digest 50 = .ok (.getfield 23, 3) := by decide +kernel
theorem dX7_digest_53 : decode cX7_digest 53 = .ok (.getfield 164, 3) := by decide +kernel
theorem dX7_digest_56 : decode cX7_digest 56 = .ok (.iload_n 3, 1) := by decide +kernel
theorem dX7_digest_57 : decode cX7_digest 57 = .ok (.iaload, 1) := by decide +kernel
theorem dX7_digest_58 : decode cX7_digest 58 = .ok (.i2l, 1) := by decide +kernel
theorem dX7_digest_59 : decode cX7_digest 59 = .ok (.ladd, 1) := by decide +kernel
theorem dX7_digest_60 : decode cX7_digest 60 = .ok (.lstore_n 1, 1) := by decide +kernel
theorem dX7_digest_61 : decode cX7_digest 61 = .ok (.iinc 3 1, 3) := by decide +kernel
theorem dX7_digest_64 : decode cX7_digest 64 = .ok (.goto (-31), 3) := by decide +kernel
theorem dX7_digest_67 : decode cX7_digest 67 = .ok (.iconst 0, 1) := by decide +kernel
theorem dX7_digest_68 : decode cX7_digest 68 = .ok (.istore_n 3, 1) := by decide +kernel
theorem dX7_digest_69 : decode cX7_digest 69 = .ok (.iload_n 3, 1) := by decide +kernel
theorem dX7_digest_70 : decode cX7_digest 70 = .ok (.aload_n 0, 1) := by decide +kernel
theorem dX7_digest_71 : decode cX7_digest 71 = .ok (.getfield 23, 3) := by decide +kernel
theorem dX7_digest_74 : decode cX7_digest 74 = .ok (.getfield 123, 3) := by decide +kernel
theorem dX7_digest_77 : decode cX7_digest 77 = .ok (.if_icmp .ge 39, 3) := by decide +kernel
theorem dX7_digest_80 : decode cX7_digest 80 = .ok (.iconst 0, 1) := by decide +kernel
theorem dX7_digest_81 : decode cX7_digest 81 = .ok (.istore 4, 2) := by decide +kernel
theorem dX7_digest_83 : decode cX7_digest 83 = .ok (.iload 4, 2) := by decide +kernel
theorem dX7_digest_85 : decode cX7_digest 85 = .ok (.iconst 4, 1) := by decide +kernel
theorem dX7_digest_86 : decode cX7_digest 86 = .ok (.if_icmp .ge 24, 3) := by decide +kernel
theorem dX7_digest_89 : decode cX7_digest 89 = .ok (.ldc2_w 316, 3) := by decide +kernel
theorem dX7_digest_92 : decode cX7_digest 92 = .ok (.lload_n 1, 1) := by decide +kernel
theorem dX7_digest_93 : decode cX7_digest 93 = .ok (.lmul, 1) := by decide +kernel
theorem dX7_digest_94 : decode cX7_digest 94 = .ok (.aload_n 0, 1) := by decide +kernel
theorem dX7_digest_95 : decode cX7_digest 95 = .ok (.iload_n 3, 1) := by decide +kernel
theorem dX7_digest_96 : decode cX7_digest 96 = .ok (.iload 4, 2) := by decide +kernel
theorem dX7_digest_98 : decode cX7_digest 98 = .ok (.invokevirtual 134, 3) := by decide +kernel
theorem dX7_digest_101 : decode cX7_digest 101 = .ok (.i2l, 1) := by decide +kernel
theorem dX7_digest_102 : decode cX7_digest 102 = .ok (.ladd, 1) := by decide +kernel
theorem dX7_digest_103 : decode cX7_digest 103 = .ok (.lstore_n 1, 1) := by decide +kernel
theorem dX7_digest_104 : decode cX7_digest 104 = .ok (.iinc 4 1, 3) := by decide +kernel
theorem dX7_digest_107 : decode cX7_digest 107 = .ok (.goto (-24), 3) := by decide +kernel
theorem dX7_digest_110 : decode cX7_digest 110 = .ok (.iinc 3 1, 3) := by decide +kernel
theorem dX7_digest_113 : decode cX7_digest 113 = .ok (.goto (-44), 3) := by decide +kernel
theorem dX7_digest_116 : decode cX7_digest 116 = .ok (.iconst 0, 1) := by decide +kernel
theorem dX7_digest_117 : decode cX7_digest 117 = .ok (.istore_n 3, 1) := by decide +kernel
theorem dX7_digest_118 : decode cX7_digest 118 = .ok (.iload_n 3, 1) := by decide +kernel
theorem dX7_digest_119 : decode cX7_digest 119 = .ok (.aload_n 0, 1) := by decide +kernel
theorem dX7_digest_120 : decode cX7_digest 120 = .ok (.getfield 38, 3) := by decide +kernel
theorem dX7_digest_123 : decode cX7_digest 123 = .ok (.arraylength, 1) := by decide +kernel
theorem dX7_digest_124 : decode cX7_digest 124 = .ok (.if_icmp .ge 26, 3) := by decide +kernel
theorem dX7_digest_127 : decode cX7_digest 127 = .ok (.ldc2_w 316, 3) := by decide +kernel
theorem dX7_digest_130 : decode cX7_digest 130 = .ok (.lload_n 1, 1) := by decide +kernel
theorem dX7_digest_131 : decode cX7_digest 131 = .ok (.lmul, 1) := by decide +kernel
theorem dX7_digest_132 : decode cX7_digest 132 = .ok (.aload_n 0, 1) := by decide +kernel
theorem dX7_digest_133 : decode cX7_digest 133 = .ok (.getfield 38, 3) := by decide +kernel
theorem dX7_digest_136 : decode cX7_digest 136 = .ok (.iload_n 3, 1) := by decide +kernel
theorem dX7_digest_137 : decode cX7_digest 137 = .ok (.aaload, 1) := by decide +kernel
theorem dX7_digest_138 : decode cX7_digest 138 = .ok (.getfield 34, 3) := by decide +kernel
theorem dX7_digest_141 : decode cX7_digest 141 = .ok (.i2l, 1) := by decide +kernel
theorem dX7_digest_142 : decode cX7_digest 142 = .ok (.ladd, 1) := by decide +kernel
theorem dX7_digest_143 : decode cX7_digest 143 = .ok (.lstore_n 1, 1) := by decide +kernel
theorem dX7_digest_144 : decode cX7_digest 144 = .ok (.iinc 3 1, 3) := by decide +kernel
theorem dX7_digest_147 : decode cX7_digest 147 = .ok (.goto (-29), 3) := by decide +kernel
theorem dX7_digest_150 : decode cX7_digest 150 = .ok (.aload_n 0, 1) := by decide +kernel
theorem dX7_digest_151 : decode cX7_digest 151 = .ok (.getfield 17, 3) := by decide +kernel
theorem dX7_digest_154 : decode cX7_digest 154 = .ok (.aload_n 0, 1) := by decide +kernel
theorem dX7_digest_155 : decode cX7_digest 155 = .ok (.getfield 13, 3) := by decide +kernel
theorem dX7_digest_158 : decode cX7_digest 158 = .ok (.lload_n 1, 1) := by decide +kernel
theorem dX7_digest_159 : decode cX7_digest 159 = .ok (.invokestatic 321, 3) := by decide +kernel
theorem dX7_digest_162 : decode cX7_digest 162 = .ok (.invokestatic 321, 3) := by decide +kernel
theorem dX7_digest_165 : decode cX7_digest 165 = .ok (.lreturn, 1) := by decide +kernel
theorem dX7_found_0 : decode cX7_found 0 = .ok (.aload_n 0, 1) := by decide +kernel
theorem dX7_found_1 : decode cX7_found 1 = .ok (.iload_n 1, 1) := by decide +kernel
theorem dX7_found_2 : decode cX7_found 2 = .ok (.putfield 311, 3) := by decide +kernel
theorem dX7_found_5 : decode cX7_found 5 = .ok (.aload_n 0, 1) := by decide +kernel
theorem dX7_found_6 : decode cX7_found 6 = .ok (.getfield 57, 3) := by decide +kernel
theorem dX7_found_9 : decode cX7_found 9 = .ok (.iload_n 1, 1) := by decide +kernel
theorem dX7_found_10 : decode cX7_found 10 = .ok (.dup2, 1) := by decide +kernel
theorem dX7_found_11 : decode cX7_found 11 = .ok (.iaload, 1) := by decide +kernel
theorem dX7_found_12 : decode cX7_found 12 = .ok (.iconst 1, 1) := by decide +kernel
theorem dX7_found_13 : decode cX7_found 13 = .ok (.iadd, 1) := by decide +kernel
theorem dX7_found_14 : decode cX7_found 14 = .ok (.iastore, 1) := by decide +kernel
theorem dX7_found_15 : decode cX7_found 15 = .ok (.bipush (-3), 2) := by decide +kernel
theorem dX7_found_17 : decode cX7_found 17 = .ok (.ireturn, 1) := by decide +kernel
theorem dX7_refusedPlace_0 : decode cX7_refusedPlace 0 = .ok (.aload_n 1, 1) := by decide +kernel
theorem dX7_refusedPlace_1 : decode cX7_refusedPlace 1 = .ok (.invokevirtual 89, 3) := by decide +kernel
theorem dX7_refusedPlace_4 : decode cX7_refusedPlace 4 = .ok (.ifCond .ne 9, 3) := by decide +kernel
theorem dX7_refusedPlace_7 : decode cX7_refusedPlace 7 = .ok (.aload_n 0, 1) := by decide +kernel
theorem dX7_refusedPlace_8 : decode cX7_refusedPlace 8 = .ok (.iconst 1, 1) := by decide +kernel
theorem dX7_refusedPlace_9 : decode cX7_refusedPlace 9 = .ok (.invokevirtual 93, 3) := by decide +kernel
theorem dX7_refusedPlace_12 : decode cX7_refusedPlace 12 = .ok (.ireturn, 1) := by decide +kernel
theorem dX7_refusedPlace_13 : decode cX7_refusedPlace 13 = .ok (.aload_n 1, 1) := by decide +kernel
theorem dX7_refusedPlace_14 : decode cX7_refusedPlace 14 = .ok (.iload_n 2, 1) := by decide +kernel
theorem dX7_refusedPlace_15 : decode cX7_refusedPlace 15 = .ok (.invokevirtual 325, 3) := by decide +kernel
theorem dX7_refusedPlace_18 : decode cX7_refusedPlace 18 = .ok (.ifCond .eq 7, 3) := by decide +kernel
theorem dX7_refusedPlace_21 : decode cX7_refusedPlace 21 = .ok (.iconst 0, 1) := by decide +kernel
theorem dX7_refusedPlace_22 : decode cX7_refusedPlace 22 = .ok (.goto 8, 3) := by decide +kernel
theorem dX7_refusedPlace_25 : decode cX7_refusedPlace 25 = .ok (.aload_n 0, 1) := by decide +kernel
theorem dX7_refusedPlace_26 : decode cX7_refusedPlace 26 = .ok (.iconst 2, 1) := by decide +kernel
theorem dX7_refusedPlace_27 : decode cX7_refusedPlace 27 = .ok (.invokevirtual 93, 3) := by decide +kernel
theorem dX7_refusedPlace_30 : decode cX7_refusedPlace 30 = .ok (.ireturn, 1) := by decide +kernel
theorem dX7_refusedNotes_0 : decode cX7_refusedNotes 0 = .ok (.aload_n 1, 1) := by decide +kernel
theorem dX7_refusedNotes_1 : decode cX7_refusedNotes 1 = .ok (.invokevirtual 89, 3) := by decide +kernel
theorem dX7_refusedNotes_4 : decode cX7_refusedNotes 4 = .ok (.ifCond .ne 9, 3) := by decide +kernel
theorem dX7_refusedNotes_7 : decode cX7_refusedNotes 7 = .ok (.aload_n 0, 1) := by decide +kernel
theorem dX7_refusedNotes_8 : decode cX7_refusedNotes 8 = .ok (.iconst 1, 1) := by decide +kernel
theorem dX7_refusedNotes_9 : decode cX7_refusedNotes 9 = .ok (.invokevirtual 93, 3) := by decide +kernel
theorem dX7_refusedNotes_12 : decode cX7_refusedNotes 12 = .ok (.ireturn, 1) := by decide +kernel
theorem dX7_refusedNotes_13 : decode cX7_refusedNotes 13 = .ok (.aload_n 1, 1) := by decide +kernel
theorem dX7_refusedNotes_14 : decode cX7_refusedNotes 14 = .ok (.getfield 96, 3) := by decide +kernel
theorem dX7_refusedNotes_17 : decode cX7_refusedNotes 17 = .ok (.iconst 2, 1) := by decide +kernel
theorem dX7_refusedNotes_18 : decode cX7_refusedNotes 18 = .ok (.irem, 1) := by decide +kernel
theorem dX7_refusedNotes_19 : decode cX7_refusedNotes 19 = .ok (.ifCond .ne 12, 3) := by decide +kernel
theorem dX7_refusedNotes_22 : decode cX7_refusedNotes 22 = .ok (.aload_n 1, 1) := by decide +kernel
theorem dX7_refusedNotes_23 : decode cX7_refusedNotes 23 = .ok (.getfield 96, 3) := by decide +kernel
theorem dX7_refusedNotes_26 : decode cX7_refusedNotes 26 = .ok (.bipush 16, 2) := by decide +kernel
theorem dX7_refusedNotes_28 : decode cX7_refusedNotes 28 = .ok (.if_icmp .le 9, 3) := by decide +kernel
theorem dX7_refusedNotes_31 : decode cX7_refusedNotes 31 = .ok (.aload_n 0, 1) := by decide +kernel
theorem dX7_refusedNotes_32 : decode cX7_refusedNotes 32 = .ok (.iconst 5, 1) := by decide +kernel
theorem dX7_refusedNotes_33 : decode cX7_refusedNotes 33 = .ok (.invokevirtual 93, 3) := by decide +kernel
theorem dX7_refusedNotes_36 : decode cX7_refusedNotes 36 = .ok (.ireturn, 1) := by decide +kernel
theorem dX7_refusedNotes_37 : decode cX7_refusedNotes 37 = .ok (.aload_n 1, 1) := by decide +kernel
theorem dX7_refusedNotes_38 : decode cX7_refusedNotes 38 = .ok (.iconst 0, 1) := by decide +kernel
theorem dX7_refusedNotes_39 : decode cX7_refusedNotes 39 = .ok (.bipush 99, 2) := by decide +kernel
theorem dX7_refusedNotes_41 : decode cX7_refusedNotes 41 = .ok (.invokevirtual 262, 3) := by decide +kernel
theorem dX7_refusedNotes_44 : decode cX7_refusedNotes 44 = .ok (.ifCond .eq 7, 3) := by decide +kernel
theorem dX7_refusedNotes_47 : decode cX7_refusedNotes 47 = .ok (.iconst 0, 1) := by decide +kernel
theorem dX7_refusedNotes_48 : decode cX7_refusedNotes 48 = .ok (.goto 8, 3) := by decide +kernel
theorem dX7_refusedNotes_51 : decode cX7_refusedNotes 51 = .ok (.aload_n 0, 1) := by decide +kernel
theorem dX7_refusedNotes_52 : decode cX7_refusedNotes 52 = .ok (.iconst 3, 1) := by decide +kernel
theorem dX7_refusedNotes_53 : decode cX7_refusedNotes 53 = .ok (.invokevirtual 93, 3) := by decide +kernel
theorem dX7_refusedNotes_56 : decode cX7_refusedNotes 56 = .ok (.ireturn, 1) := by decide +kernel
theorem dX7_refusedSets_0 : decode cX7_refusedSets 0 = .ok (.iload_n 1, 1) := by decide +kernel
theorem dX7_refusedSets_1 : decode cX7_refusedSets 1 = .ok (.invokestatic 167, 3) := by decide +kernel
theorem dX7_refusedSets_4 : decode cX7_refusedSets 4 = .ok (.ifCond .eq 14, 3) := by decide +kernel
theorem dX7_refusedSets_7 : decode cX7_refusedSets 7 = .ok (.iload_n 2, 1) := by decide +kernel
theorem dX7_refusedSets_8 : decode cX7_refusedSets 8 = .ok (.iconst 0, 1) := by decide +kernel
theorem dX7_refusedSets_9 : decode cX7_refusedSets 9 = .ok (.sipush 594, 3) := by decide +kernel
theorem dX7_refusedSets_12 : decode cX7_refusedSets 12 = .ok (.invokestatic 130, 3) := by decide +kernel
theorem dX7_refusedSets_15 : decode cX7_refusedSets 15 = .ok (.ifCond .ne 5, 3) := by decide +kernel
theorem dX7_refusedSets_18 : decode cX7_refusedSets 18 = .ok (.iconst (-1), 1) := by decide +kernel
theorem dX7_refusedSets_19 : decode cX7_refusedSets 19 = .ok (.ireturn, 1) := by decide +kernel
theorem dX7_refusedSets_20 : decode cX7_refusedSets 20 = .ok (.aload_n 0, 1) := by decide +kernel
theorem dX7_refusedSets_21 : decode cX7_refusedSets 21 = .ok (.getfield 23, 3) := by decide +kernel
theorem dX7_refusedSets_24 : decode cX7_refusedSets 24 = .ok (.getfield 123, 3) := by decide +kernel
theorem dX7_refusedSets_27 : decode cX7_refusedSets 27 = .ok (.ifCond .ne 8, 3) := by decide +kernel
theorem dX7_refusedSets_30 : decode cX7_refusedSets 30 = .ok (.bipush (-4), 2) := by decide +kernel
theorem dX7_refusedSets_32 : decode cX7_refusedSets 32 = .ok (.goto 4, 3) := by decide +kernel
theorem dX7_refusedSets_35 : decode cX7_refusedSets 35 = .ok (.iconst 0, 1) := by decide +kernel
theorem dX7_refusedSets_36 : decode cX7_refusedSets 36 = .ok (.ireturn, 1) := by decide +kernel
theorem dX7_within_0 : decode cX7_within 0 = .ok (.iload_n 0, 1) := by decide +kernel
theorem dX7_within_1 : decode cX7_within 1 = .ok (.iload_n 1, 1) := by decide +kernel
theorem dX7_within_2 : decode cX7_within 2 = .ok (.if_icmp .lt 12, 3) := by decide +kernel
theorem dX7_within_5 : decode cX7_within 5 = .ok (.iload_n 0, 1) := by decide +kernel
theorem dX7_within_6 : decode cX7_within 6 = .ok (.iload_n 2, 1) := by decide +kernel
theorem dX7_within_7 : decode cX7_within 7 = .ok (.if_icmp .gt 7, 3) := by decide +kernel
theorem dX7_within_10 : decode cX7_within 10 = .ok (.iconst 1, 1) := by decide +kernel
theorem dX7_within_11 : decode cX7_within 11 = .ok (.goto 4, 3) := by decide +kernel
theorem dX7_within_14 : decode cX7_within 14 = .ok (.iconst 0, 1) := by decide +kernel
theorem dX7_within_15 : decode cX7_within 15 = .ok (.ireturn, 1) := by decide +kernel
theorem dX7_isMeaning_0 : decode cX7_isMeaning 0 = .ok (.iload_n 0, 1) := by decide +kernel
theorem dX7_isMeaning_1 : decode cX7_isMeaning 1 = .ok (.iconst 0, 1) := by decide +kernel
theorem dX7_isMeaning_2 : decode cX7_isMeaning 2 = .ok (.bipush 99, 2) := by decide +kernel
theorem dX7_isMeaning_4 : decode cX7_isMeaning 4 = .ok (.invokestatic 130, 3) := by decide +kernel
theorem dX7_isMeaning_7 : decode cX7_isMeaning 7 = .ok (.ireturn, 1) := by decide +kernel
theorem dX7_areChances_0 : decode cX7_areChances 0 = .ok (.iload_n 0, 1) := by decide +kernel
theorem dX7_areChances_1 : decode cX7_areChances 1 = .ok (.iconst 0, 1) := by decide +kernel
theorem dX7_areChances_2 : decode cX7_areChances 2 = .ok (.bipush 6, 2) := by decide +kernel
theorem dX7_areChances_4 : decode cX7_areChances 4 = .ok (.invokestatic 130, 3) := by decide +kernel
theorem dX7_areChances_7 : decode cX7_areChances 7 = .ok (.ifCond .eq 17, 3) := by decide +kernel
theorem dX7_areChances_10 : decode cX7_areChances 10 = .ok (.iload_n 1, 1) := by decide +kernel
theorem dX7_areChances_11 : decode cX7_areChances 11 = .ok (.iconst 0, 1) := by decide +kernel
theorem dX7_areChances_12 : decode cX7_areChances 12 = .ok (.bipush 12, 2) := by decide +kernel
theorem dX7_areChances_14 : decode cX7_areChances 14 = .ok (.invokestatic 130, 3) := by decide +kernel
theorem dX7_areChances_17 : decode cX7_areChances 17 = .ok (.ifCond .eq 7, 3) := by decide +kernel
theorem dX7_areChances_20 : decode cX7_areChances 20 = .ok (.iconst 1, 1) := by decide +kernel
theorem dX7_areChances_21 : decode cX7_areChances 21 = .ok (.goto 4, 3) := by decide +kernel
theorem dX7_areChances_24 : decode cX7_areChances 24 = .ok (.iconst 0, 1) := by decide +kernel
theorem dX7_areChances_25 : decode cX7_areChances 25 = .ok (.ireturn, 1) := by decide +kernel
theorem dX7_shelf_0 : decode cX7_shelf 0 = .ok (.iload_n 0, 1) := by decide +kernel
theorem dX7_shelf_1 : decode cX7_shelf 1 = .ok (.anewarray 77, 3) := by decide +kernel
theorem dX7_shelf_4 : decode cX7_shelf 4 = .ok (.astore_n 2, 1) := by decide +kernel
theorem dX7_shelf_5 : decode cX7_shelf 5 = .ok (.iconst 0, 1) := by decide +kernel
theorem dX7_shelf_6 : decode cX7_shelf 6 = .ok (.istore_n 3, 1) := by decide +kernel
theorem dX7_shelf_7 : decode cX7_shelf 7 = .ok (.iload_n 3, 1) := by decide +kernel
theorem dX7_shelf_8 : decode cX7_shelf 8 = .ok (.aload_n 2, 1) := by decide +kernel
theorem dX7_shelf_9 : decode cX7_shelf 9 = .ok (.arraylength, 1) := by decide +kernel
theorem dX7_shelf_10 : decode cX7_shelf 10 = .ok (.if_icmp .ge 20, 3) := by decide +kernel
theorem dX7_shelf_13 : decode cX7_shelf 13 = .ok (.aload_n 2, 1) := by decide +kernel
theorem dX7_shelf_14 : decode cX7_shelf 14 = .ok (.iload_n 3, 1) := by decide +kernel
theorem dX7_shelf_15 : decode cX7_shelf 15 = .ok (.new 77, 3) := by decide +kernel
theorem dX7_shelf_18 : decode cX7_shelf 18 = .ok (.dup, 1) := by decide +kernel
theorem dX7_shelf_19 : decode cX7_shelf 19 = .ok (.iload_n 1, 1) := by decide +kernel
theorem dX7_shelf_20 : decode cX7_shelf 20 = .ok (.invokespecial 328, 3) := by decide +kernel
theorem dX7_shelf_23 : decode cX7_shelf 23 = .ok (.aastore, 1) := by decide +kernel
theorem dX7_shelf_24 : decode cX7_shelf 24 = .ok (.iinc 3 1, 3) := by decide +kernel
theorem dX7_shelf_27 : decode cX7_shelf 27 = .ok (.goto (-20), 3) := by decide +kernel
theorem dX7_shelf_30 : decode cX7_shelf 30 = .ok (.aload_n 2, 1) := by decide +kernel
theorem dX7_shelf_31 : decode cX7_shelf 31 = .ok (.areturn, 1) := by decide +kernel
theorem dX7_lookUp_0 : decode cX7_lookUp 0 = .ok (.iload_n 1, 1) := by decide +kernel
theorem dX7_lookUp_1 : decode cX7_lookUp 1 = .ok (.ifCond .lt 15, 3) := by decide +kernel
theorem dX7_lookUp_4 : decode cX7_lookUp 4 = .ok (.iload_n 1, 1) := by decide +kernel
theorem dX7_lookUp_5 : decode cX7_lookUp 5 = .ok (.aload_n 0, 1) := by decide +kernel
theorem dX7_lookUp_6 : decode cX7_lookUp 6 = .ok (.arraylength, 1) := by decide +kernel
theorem dX7_lookUp_7 : decode cX7_lookUp 7 = .ok (.if_icmp .ge 9, 3) := by decide +kernel
theorem dX7_lookUp_10 : decode cX7_lookUp 10 = .ok (.aload_n 0, 1) := by decide +kernel
theorem dX7_lookUp_11 : decode cX7_lookUp 11 = .ok (.iload_n 1, 1) := by decide +kernel
theorem dX7_lookUp_12 : decode cX7_lookUp 12 = .ok (.aaload, 1) := by decide +kernel
theorem dX7_lookUp_13 : decode cX7_lookUp 13 = .ok (.goto 4, 3) := by decide +kernel
theorem dX7_lookUp_16 : decode cX7_lookUp 16 = .ok (.aconst_null, 1) := by decide +kernel
theorem dX7_lookUp_17 : decode cX7_lookUp 17 = .ok (.areturn, 1) := by decide +kernel
theorem dX7_renewed_0 : decode cX7_renewed 0 = .ok (.aload_n 1, 1) := by decide +kernel
theorem dX7_renewed_1 : decode cX7_renewed 1 = .ok (.ifnull 8, 3) := by decide +kernel
theorem dX7_renewed_4 : decode cX7_renewed 4 = .ok (.iload_n 2, 1) := by decide +kernel
theorem dX7_renewed_5 : decode cX7_renewed 5 = .ok (.iload_n 3, 1) := by decide +kernel
theorem dX7_renewed_6 : decode cX7_renewed 6 = .ok (.if_icmp .le 5, 3) := by decide +kernel
theorem dX7_renewed_9 : decode cX7_renewed 9 = .ok (.iconst (-1), 1) := by decide +kernel
theorem dX7_renewed_10 : decode cX7_renewed 10 = .ok (.ireturn, 1) := by decide +kernel
theorem dX7_renewed_11 : decode cX7_renewed 11 = .ok (.iload_n 2, 1) := by decide +kernel
theorem dX7_renewed_12 : decode cX7_renewed 12 = .ok (.ifCond .ge 9, 3) := by decide +kernel
theorem dX7_renewed_15 : decode cX7_renewed 15 = .ok (.aload_n 0, 1) := by decide +kernel
theorem dX7_renewed_16 : decode cX7_renewed 16 = .ok (.iconst 5, 1) := by decide +kernel
theorem dX7_renewed_17 : decode cX7_renewed 17 = .ok (.invokevirtual 93, 3) := by decide +kernel
theorem dX7_renewed_20 : decode cX7_renewed 20 = .ok (.ireturn, 1) := by decide +kernel
theorem dX7_renewed_21 : decode cX7_renewed 21 = .ok (.aload_n 1, 1) := by decide +kernel
theorem dX7_renewed_22 : decode cX7_renewed 22 = .ok (.iload_n 2, 1) := by decide +kernel
theorem dX7_renewed_23 : decode cX7_renewed 23 = .ok (.iload 4, 2) := by decide +kernel
theorem dX7_renewed_25 : decode cX7_renewed 25 = .ok (.invokevirtual 330, 3) := by decide +kernel
theorem dX7_renewed_28 : decode cX7_renewed 28 = .ok (.iload_n 2, 1) := by decide +kernel
theorem dX7_renewed_29 : decode cX7_renewed 29 = .ok (.ireturn, 1) := by decide +kernel
theorem dX7_thereOn_0 : decode cX7_thereOn 0 = .ok (.iconst 0, 1) := by decide +kernel
theorem dX7_thereOn_1 : decode cX7_thereOn 1 = .ok (.istore_n 1, 1) := by decide +kernel
theorem dX7_thereOn_2 : decode cX7_thereOn 2 = .ok (.iconst 0, 1) := by decide +kernel
theorem dX7_thereOn_3 : decode cX7_thereOn 3 = .ok (.istore_n 2, 1) := by decide +kernel
theorem dX7_thereOn_4 : decode cX7_thereOn 4 = .ok (.iload_n 2, 1) := by decide +kernel
theorem dX7_thereOn_5 : decode cX7_thereOn 5 = .ok (.aload_n 0, 1) := by decide +kernel
theorem dX7_thereOn_6 : decode cX7_thereOn 6 = .ok (.arraylength, 1) := by decide +kernel
theorem dX7_thereOn_7 : decode cX7_thereOn 7 = .ok (.if_icmp .ge 26, 3) := by decide +kernel
theorem dX7_thereOn_10 : decode cX7_thereOn 10 = .ok (.iload_n 1, 1) := by decide +kernel
theorem dX7_thereOn_11 : decode cX7_thereOn 11 = .ok (.aload_n 0, 1) := by decide +kernel
theorem dX7_thereOn_12 : decode cX7_thereOn 12 = .ok (.iload_n 2, 1) := by decide +kernel
theorem dX7_thereOn_13 : decode cX7_thereOn 13 = .ok (.aaload, 1) := by decide +kernel
theorem dX7_thereOn_14 : decode cX7_thereOn 14 = .ok (.invokevirtual 89, 3) := by decide +kernel
theorem dX7_thereOn_17 : decode cX7_thereOn 17 = .ok (.ifCond .eq 7, 3) := by decide +kernel
theorem dX7_thereOn_20 : decode cX7_thereOn 20 = .ok (.iconst 1, 1) := by decide +kernel
theorem dX7_thereOn_21 : decode cX7_thereOn 21 = .ok (.goto 4, 3) := by decide +kernel
theorem dX7_thereOn_24 : decode cX7_thereOn 24 = .ok (.iconst 0, 1) := by decide +kernel
theorem dX7_thereOn_25 : decode cX7_thereOn 25 = .ok (.iadd, 1) := by decide +kernel
theorem dX7_thereOn_26 : decode cX7_thereOn 26 = .ok (.istore_n 1, 1) := by decide +kernel
theorem dX7_thereOn_27 : decode cX7_thereOn 27 = .ok (.iinc 2 1, 3) := by decide +kernel
theorem dX7_thereOn_30 : decode cX7_thereOn 30 = .ok (.goto (-26), 3) := by decide +kernel
theorem dX7_thereOn_33 : decode cX7_thereOn 33 = .ok (.iload_n 1, 1) := by decide +kernel
theorem dX7_thereOn_34 : decode cX7_thereOn 34 = .ok (.ireturn, 1) := by decide +kernel
theorem dX7_digestOf_0 : decode cX7_digestOf 0 = .ok (.lload_n 1, 1) := by decide +kernel
theorem dX7_digestOf_1 : decode cX7_digestOf 1 = .ok (.lstore_n 3, 1) := by decide +kernel
theorem dX7_digestOf_2 : decode cX7_digestOf 2 = .ok (.iconst 0, 1) := by decide +kernel
theorem dX7_digestOf_3 : decode cX7_digestOf 3 = .ok (.istore 5, 2) := by decide +kernel
theorem dX7_digestOf_5 : decode cX7_digestOf 5 = .ok (.iload 5, 2) := by decide +kernel
theorem dX7_digestOf_7 : decode cX7_digestOf 7 = .ok (.aload_n 0, 1) := by decide +kernel
theorem dX7_digestOf_8 : decode cX7_digestOf 8 = .ok (.arraylength, 1) := by decide +kernel
theorem dX7_digestOf_9 : decode cX7_digestOf 9 = .ok (.if_icmp .ge 62, 3) := by decide +kernel
theorem dX7_digestOf_12 : decode cX7_digestOf 12 = .ok (.ldc2_w 316, 3) := by decide +kernel
theorem dX7_digestOf_15 : decode cX7_digestOf 15 = .ok (.lload_n 3, 1) := by decide +kernel
theorem dX7_digestOf_16 : decode cX7_digestOf 16 = .ok (.lmul, 1) := by decide +kernel
theorem dX7_digestOf_17 : decode cX7_digestOf 17 = .ok (.aload_n 0, 1) := by decide +kernel
theorem dX7_digestOf_18 : decode cX7_digestOf 18 = .ok (.iload 5, 2) := by decide +kernel
theorem dX7_digestOf_20 : decode cX7_digestOf 20 = .ok (.aaload, 1) := by decide +kernel
theorem dX7_digestOf_21 : decode cX7_digestOf 21 = .ok (.getfield 96, 3) := by decide +kernel
theorem dX7_digestOf_24 : decode cX7_digestOf 24 = .ok (.i2l, 1) := by decide +kernel
theorem dX7_digestOf_25 : decode cX7_digestOf 25 = .ok (.ladd, 1) := by decide +kernel
theorem dX7_digestOf_26 : decode cX7_digestOf 26 = .ok (.lstore_n 3, 1) := by decide +kernel
theorem dX7_digestOf_27 : decode cX7_digestOf 27 = .ok (.iconst 0, 1) := by decide +kernel
theorem dX7_digestOf_28 : decode cX7_digestOf 28 = .ok (.istore 6, 2) := by decide +kernel
theorem dX7_digestOf_30 : decode cX7_digestOf 30 = .ok (.iload 6, 2) := by decide +kernel
theorem dX7_digestOf_32 : decode cX7_digestOf 32 = .ok (.aload_n 0, 1) := by decide +kernel
theorem dX7_digestOf_33 : decode cX7_digestOf 33 = .ok (.iload 5, 2) := by decide +kernel
theorem dX7_digestOf_35 : decode cX7_digestOf 35 = .ok (.aaload, 1) := by decide +kernel
theorem dX7_digestOf_36 : decode cX7_digestOf 36 = .ok (.getfield 96, 3) := by decide +kernel
theorem dX7_digestOf_39 : decode cX7_digestOf 39 = .ok (.if_icmp .ge 26, 3) := by decide +kernel
theorem dX7_digestOf_42 : decode cX7_digestOf 42 = .ok (.ldc2_w 316, 3) := by decide +kernel
theorem dX7_digestOf_45 : decode cX7_digestOf 45 = .ok (.lload_n 3, 1) := by decide +kernel
theorem dX7_digestOf_46 : decode cX7_digestOf 46 = .ok (.lmul, 1) := by decide +kernel
theorem dX7_digestOf_47 : decode cX7_digestOf 47 = .ok (.aload_n 0, 1) := by decide +kernel
theorem dX7_digestOf_48 : decode cX7_digestOf 48 = .ok (.iload 5, 2) := by decide +kernel
theorem dX7_digestOf_50 : decode cX7_digestOf 50 = .ok (.aaload, 1) := by decide +kernel
theorem dX7_digestOf_51 : decode cX7_digestOf 51 = .ok (.iload 6, 2) := by decide +kernel
theorem dX7_digestOf_53 : decode cX7_digestOf 53 = .ok (.invokevirtual 76, 3) := by decide +kernel
theorem dX7_digestOf_56 : decode cX7_digestOf 56 = .ok (.i2l, 1) := by decide +kernel
theorem dX7_digestOf_57 : decode cX7_digestOf 57 = .ok (.ladd, 1) := by decide +kernel
theorem dX7_digestOf_58 : decode cX7_digestOf 58 = .ok (.lstore_n 3, 1) := by decide +kernel
theorem dX7_digestOf_59 : decode cX7_digestOf 59 = .ok (.iinc 6 1, 3) := by decide +kernel
theorem dX7_digestOf_62 : decode cX7_digestOf 62 = .ok (.goto (-32), 3) := by decide +kernel
theorem dX7_digestOf_65 : decode cX7_digestOf 65 = .ok (.iinc 5 1, 3) := by decide +kernel
theorem dX7_digestOf_68 : decode cX7_digestOf 68 = .ok (.goto (-63), 3) := by decide +kernel
theorem dX7_digestOf_71 : decode cX7_digestOf 71 = .ok (.lload_n 3, 1) := by decide +kernel
theorem dX7_digestOf_72 : decode cX7_digestOf 72 = .ok (.lreturn, 1) := by decide +kernel
theorem dX7_memberFact_0 : decode cX7_memberFact 0 = .ok (.iload_n 2, 1) := by decide +kernel
theorem dX7_memberFact_1 : decode cX7_memberFact 1 = .ok (.tableswitch 65 0 2 #[27, 37, 47], 27) := by decide +kernel
theorem dX7_memberFact_28 : decode cX7_memberFact 28 = .ok (.aload_n 0, 1) := by decide +kernel
theorem dX7_memberFact_29 : decode cX7_memberFact 29 = .ok (.getfield 23, 3) := by decide +kernel
theorem dX7_memberFact_32 : decode cX7_memberFact 32 = .ok (.getfield 140, 3) := by decide +kernel
theorem dX7_memberFact_35 : decode cX7_memberFact 35 = .ok (.iload_n 1, 1) := by decide +kernel
theorem dX7_memberFact_36 : decode cX7_memberFact 36 = .ok (.iaload, 1) := by decide +kernel
theorem dX7_memberFact_37 : decode cX7_memberFact 37 = .ok (.ireturn, 1) := by decide +kernel
theorem dX7_memberFact_38 : decode cX7_memberFact 38 = .ok (.aload_n 0, 1) := by decide +kernel
theorem dX7_memberFact_39 : decode cX7_memberFact 39 = .ok (.getfield 23, 3) := by decide +kernel
theorem dX7_memberFact_42 : decode cX7_memberFact 42 = .ok (.getfield 333, 3) := by decide +kernel
theorem dX7_memberFact_45 : decode cX7_memberFact 45 = .ok (.iload_n 1, 1) := by decide +kernel
theorem dX7_memberFact_46 : decode cX7_memberFact 46 = .ok (.iaload, 1) := by decide +kernel
theorem dX7_memberFact_47 : decode cX7_memberFact 47 = .ok (.ireturn, 1) := by decide +kernel
theorem dX7_memberFact_48 : decode cX7_memberFact 48 = .ok (.aload_n 0, 1) := by decide +kernel
theorem dX7_memberFact_49 : decode cX7_memberFact 49 = .ok (.getfield 23, 3) := by decide +kernel
theorem dX7_memberFact_52 : decode cX7_memberFact 52 = .ok (.getfield 164, 3) := by decide +kernel
theorem dX7_memberFact_55 : decode cX7_memberFact 55 = .ok (.aload_n 0, 1) := by decide +kernel
theorem dX7_memberFact_56 : decode cX7_memberFact 56 = .ok (.getfield 23, 3) := by decide +kernel
theorem dX7_memberFact_59 : decode cX7_memberFact 59 = .ok (.getfield 333, 3) := by decide +kernel
theorem dX7_memberFact_62 : decode cX7_memberFact 62 = .ok (.iload_n 1, 1) := by decide +kernel
theorem dX7_memberFact_63 : decode cX7_memberFact 63 = .ok (.iaload, 1) := by decide +kernel
theorem dX7_memberFact_64 : decode cX7_memberFact 64 = .ok (.iaload, 1) := by decide +kernel
theorem dX7_memberFact_65 : decode cX7_memberFact 65 = .ok (.ireturn, 1) := by decide +kernel
theorem dX7_memberFact_66 : decode cX7_memberFact 66 = .ok (.aload_n 0, 1) := by decide +kernel
theorem dX7_memberFact_67 : decode cX7_memberFact 67 = .ok (.getfield 23, 3) := by decide +kernel
theorem dX7_memberFact_70 : decode cX7_memberFact 70 = .ok (.getfield 336, 3) := by decide +kernel
theorem dX7_memberFact_73 : decode cX7_memberFact 73 = .ok (.iload_n 1, 1) := by decide +kernel
theorem dX7_memberFact_74 : decode cX7_memberFact 74 = .ok (.iaload, 1) := by decide +kernel
theorem dX7_memberFact_75 : decode cX7_memberFact 75 = .ok (.ireturn, 1) := by decide +kernel
theorem dX7_keptClubs_0 : decode cX7_keptClubs 0 = .ok (.iconst 0, 1) := by decide +kernel
theorem dX7_keptClubs_1 : decode cX7_keptClubs 1 = .ok (.istore_n 1, 1) := by decide +kernel
theorem dX7_keptClubs_2 : decode cX7_keptClubs 2 = .ok (.iconst 0, 1) := by decide +kernel
theorem dX7_keptClubs_3 : decode cX7_keptClubs 3 = .ok (.istore_n 2, 1) := by decide +kernel
theorem dX7_keptClubs_4 : decode cX7_keptClubs 4 = .ok (.iload_n 2, 1) := by decide +kernel
theorem dX7_keptClubs_5 : decode cX7_keptClubs 5 = .ok (.aload_n 0, 1) := by decide +kernel
theorem dX7_keptClubs_6 : decode cX7_keptClubs 6 = .ok (.getfield 38, 3) := by decide +kernel
theorem dX7_keptClubs_9 : decode cX7_keptClubs 9 = .ok (.arraylength, 1) := by decide +kernel
theorem dX7_keptClubs_10 : decode cX7_keptClubs 10 = .ok (.if_icmp .ge 30, 3) := by decide +kernel
theorem dX7_keptClubs_13 : decode cX7_keptClubs 13 = .ok (.iload_n 1, 1) := by decide +kernel
theorem dX7_keptClubs_14 : decode cX7_keptClubs 14 = .ok (.aload_n 0, 1) := by decide +kernel
theorem dX7_keptClubs_15 : decode cX7_keptClubs 15 = .ok (.getfield 38, 3) := by decide +kernel
theorem dX7_keptClubs_18 : decode cX7_keptClubs 18 = .ok (.iload_n 2, 1) := by decide +kernel
theorem dX7_keptClubs_19 : decode cX7_keptClubs 19 = .ok (.aaload, 1) := by decide +kernel
theorem dX7_keptClubs_20 : decode cX7_keptClubs 20 = .ok (.getfield 34, 3) := by decide +kernel
theorem dX7_keptClubs_23 : decode cX7_keptClubs 23 = .ok (.iconst (-1), 1) := by decide +kernel
theorem dX7_keptClubs_24 : decode cX7_keptClubs 24 = .ok (.if_icmp .ne 7, 3) := by decide +kernel
theorem dX7_keptClubs_27 : decode cX7_keptClubs 27 = .ok (.iconst 0, 1) := by decide +kernel
theorem dX7_keptClubs_28 : decode cX7_keptClubs 28 = .ok (.goto 4, 3) := by decide +kernel
theorem dX7_keptClubs_31 : decode cX7_keptClubs 31 = .ok (.iconst 1, 1) := by decide +kernel
theorem dX7_keptClubs_32 : decode cX7_keptClubs 32 = .ok (.iadd, 1) := by decide +kernel
theorem dX7_keptClubs_33 : decode cX7_keptClubs 33 = .ok (.istore_n 1, 1) := by decide +kernel
theorem dX7_keptClubs_34 : decode cX7_keptClubs 34 = .ok (.iinc 2 1, 3) := by decide +kernel
theorem dX7_keptClubs_37 : decode cX7_keptClubs 37 = .ok (.goto (-33), 3) := by decide +kernel
theorem dX7_keptClubs_40 : decode cX7_keptClubs 40 = .ok (.iload_n 1, 1) := by decide +kernel
theorem dX7_keptClubs_41 : decode cX7_keptClubs 41 = .ok (.ireturn, 1) := by decide +kernel
theorem dX7_perform_0 : decode cX7_perform 0 = .ok (.aload_n 0, 1) := by decide +kernel
theorem dX7_perform_1 : decode cX7_perform 1 = .ok (.getfield 30, 3) := by decide +kernel
theorem dX7_perform_4 : decode cX7_perform 4 = .ok (.iload_n 1, 1) := by decide +kernel
theorem dX7_perform_5 : decode cX7_perform 5 = .ok (.iload_n 2, 1) := by decide +kernel
theorem dX7_perform_6 : decode cX7_perform 6 = .ok (.iload_n 3, 1) := by decide +kernel
theorem dX7_perform_7 : decode cX7_perform 7 = .ok (.invokevirtual 339, 3) := by decide +kernel
theorem dX7_perform_10 : decode cX7_perform 10 = .ok (.aload_n 0, 1) := by decide +kernel
theorem dX7_perform_11 : decode cX7_perform 11 = .ok (.iload_n 1, 1) := by decide +kernel
theorem dX7_perform_12 : decode cX7_perform 12 = .ok (.iload_n 2, 1) := by decide +kernel
theorem dX7_perform_13 : decode cX7_perform 13 = .ok (.iload_n 3, 1) := by decide +kernel
theorem dX7_perform_14 : decode cX7_perform 14 = .ok (.invokevirtual 342, 3) := by decide +kernel
theorem dX7_perform_17 : decode cX7_perform 17 = .ok (.ireturn, 1) := by decide +kernel
theorem dX7_enact_0 : decode cX7_enact 0 = .ok (.iload_n 1, 1) := by decide +kernel
theorem dX7_enact_1 : decode cX7_enact 1 = .ok (.tableswitch 54 0 2 #[27, 37, 45], 27) := by decide +kernel
theorem dX7_enact_28 : decode cX7_enact 28 = .ok (.aload_n 0, 1) := by decide +kernel
theorem dX7_enact_29 : decode cX7_enact 29 = .ok (.getfield 23, 3) := by decide +kernel
theorem dX7_enact_32 : decode cX7_enact 32 = .ok (.iload_n 2, 1) := by decide +kernel
theorem dX7_enact_33 : decode cX7_enact 33 = .ok (.iload_n 3, 1) := by decide +kernel
theorem dX7_enact_34 : decode cX7_enact 34 = .ok (.invokevirtual 345, 3) := by decide +kernel
theorem dX7_enact_37 : decode cX7_enact 37 = .ok (.ireturn, 1) := by decide +kernel
theorem dX7_enact_38 : decode cX7_enact 38 = .ok (.aload_n 0, 1) := by decide +kernel
theorem dX7_enact_39 : decode cX7_enact 39 = .ok (.getfield 23, 3) := by decide +kernel
theorem dX7_enact_42 : decode cX7_enact 42 = .ok (.invokevirtual 348, 3) := by decide +kernel
theorem dX7_enact_45 : decode cX7_enact 45 = .ok (.ireturn, 1) := by decide +kernel
theorem dX7_enact_46 : decode cX7_enact 46 = .ok (.aload_n 0, 1) := by decide +kernel
theorem dX7_enact_47 : decode cX7_enact 47 = .ok (.getfield 23, 3) := by decide +kernel
theorem dX7_enact_50 : decode cX7_enact 50 = .ok (.iload_n 2, 1) := by decide +kernel
theorem dX7_enact_51 : decode cX7_enact 51 = .ok (.invokevirtual 351, 3) := by decide +kernel
theorem dX7_enact_54 : decode cX7_enact 54 = .ok (.ireturn, 1) := by decide +kernel
theorem dX7_enact_55 : decode cX7_enact 55 = .ok (.aload_n 0, 1) := by decide +kernel
theorem dX7_enact_56 : decode cX7_enact 56 = .ok (.getfield 23, 3) := by decide +kernel
theorem dX7_enact_59 : decode cX7_enact 59 = .ok (.invokevirtual 354, 3) := by decide +kernel
theorem dX7_enact_62 : decode cX7_enact 62 = .ok (.ireturn, 1) := by decide +kernel
theorem dX7_relive_0 : decode cX7_relive 0 = .ok (.aload_n 0, 1) := by decide +kernel
theorem dX7_relive_1 : decode cX7_relive 1 = .ok (.getfield 23, 3) := by decide +kernel
theorem dX7_relive_4 : decode cX7_relive 4 = .ok (.invokevirtual 120, 3) := by decide +kernel
theorem dX7_relive_7 : decode cX7_relive 7 = .ok (.iconst 0, 1) := by decide +kernel
theorem dX7_relive_8 : decode cX7_relive 8 = .ok (.istore_n 1, 1) := by decide +kernel
theorem dX7_relive_9 : decode cX7_relive 9 = .ok (.iload_n 1, 1) := by decide +kernel
theorem dX7_relive_10 : decode cX7_relive 10 = .ok (.aload_n 0, 1) := by decide +kernel
theorem dX7_relive_11 : decode cX7_relive 11 = .ok (.getfield 30, 3) := by decide +kernel
theorem dX7_relive_14 : decode cX7_relive 14 = .ok (.getfield 34, 3) := by decide +kernel
theorem dX7_relive_17 : decode cX7_relive 17 = .ok (.if_icmp .ge 38, 3) := by decide +kernel
theorem dX7_relive_20 : decode cX7_relive 20 = .ok (.aload_n 0, 1) := by decide +kernel
theorem dX7_relive_21 : decode cX7_relive 21 = .ok (.aload_n 0, 1) := by decide +kernel
theorem dX7_relive_22 : decode cX7_relive 22 = .ok (.getfield 30, 3) := by decide +kernel
theorem dX7_relive_25 : decode cX7_relive 25 = .ok (.iload_n 1, 1) := by decide +kernel
theorem dX7_relive_26 : decode cX7_relive 26 = .ok (.invokevirtual 357, 3) := by decide +kernel
theorem dX7_relive_29 : decode cX7_relive 29 = .ok (.aload_n 0, 1) := by decide +kernel
theorem dX7_relive_30 : decode cX7_relive 30 = .ok (.getfield 30, 3) := by decide +kernel
theorem dX7_relive_33 : decode cX7_relive 33 = .ok (.iload_n 1, 1) := by decide +kernel
theorem dX7_relive_34 : decode cX7_relive 34 = .ok (.invokevirtual 360, 3) := by decide +kernel
theorem dX7_relive_37 : decode cX7_relive 37 = .ok (.aload_n 0, 1) := by decide +kernel
theorem dX7_relive_38 : decode cX7_relive 38 = .ok (.getfield 30, 3) := by decide +kernel
theorem dX7_relive_41 : decode cX7_relive 41 = .ok (.iload_n 1, 1) := by decide +kernel
theorem dX7_relive_42 : decode cX7_relive 42 = .ok (.invokevirtual 363, 3) := by decide +kernel
theorem dX7_relive_45 : decode cX7_relive 45 = .ok (.invokevirtual 342, 3) := by decide +kernel
theorem dX7_relive_48 : decode cX7_relive 48 = .ok (.pop, 1) := by decide +kernel
theorem dX7_relive_49 : decode cX7_relive 49 = .ok (.iinc 1 1, 3) := by decide +kernel
theorem dX7_relive_52 : decode cX7_relive 52 = .ok (.goto (-43), 3) := by decide +kernel
theorem dX7_relive_55 : decode cX7_relive 55 = .ok (.return_, 1) := by decide +kernel
theorem dX7_performLot_0 : decode cX7_performLot 0 = .ok (.iload_n 1, 1) := by decide +kernel
theorem dX7_performLot_1 : decode cX7_performLot 1 = .ok (.bipush 8, 2) := by decide +kernel
theorem dX7_performLot_3 : decode cX7_performLot 3 = .ok (.idiv, 1) := by decide +kernel
theorem dX7_performLot_4 : decode cX7_performLot 4 = .ok (.bipush 8, 2) := by decide +kernel
theorem dX7_performLot_6 : decode cX7_performLot 6 = .ok (.irem, 1) := by decide +kernel
theorem dX7_performLot_7 : decode cX7_performLot 7 = .ok (.tableswitch 68 0 2 #[25, 36, 57], 25) := by decide +kernel
theorem dX7_performLot_32 : decode cX7_performLot 32 = .ok (.aload_n 0, 1) := by decide +kernel
theorem dX7_performLot_33 : decode cX7_performLot 33 = .ok (.iconst 1, 1) := by decide +kernel
theorem dX7_performLot_34 : decode cX7_performLot 34 = .ok (.iconst 0, 1) := by decide +kernel
theorem dX7_performLot_35 : decode cX7_performLot 35 = .ok (.iconst 0, 1) := by decide +kernel
theorem dX7_performLot_36 : decode cX7_performLot 36 = .ok (.invokevirtual 173, 3) := by decide +kernel
theorem dX7_performLot_39 : decode cX7_performLot 39 = .ok (.pop, 1) := by decide +kernel
theorem dX7_performLot_40 : decode cX7_performLot 40 = .ok (.goto 59, 3) := by decide +kernel
theorem dX7_performLot_43 : decode cX7_performLot 43 = .ok (.aload_n 0, 1) := by decide +kernel
theorem dX7_performLot_44 : decode cX7_performLot 44 = .ok (.iconst 2, 1) := by decide +kernel
theorem dX7_performLot_45 : decode cX7_performLot 45 = .ok (.iload_n 1, 1) := by decide +kernel
theorem dX7_performLot_46 : decode cX7_performLot 46 = .ok (.aload_n 0, 1) := by decide +kernel
theorem dX7_performLot_47 : decode cX7_performLot 47 = .ok (.getfield 23, 3) := by decide +kernel
theorem dX7_performLot_50 : decode cX7_performLot 50 = .ok (.getfield 204, 3) := by decide +kernel
theorem dX7_performLot_53 : decode cX7_performLot 53 = .ok (.invokestatic 366, 3) := by decide +kernel
theorem dX7_performLot_56 : decode cX7_performLot 56 = .ok (.iconst 0, 1) := by decide +kernel
theorem dX7_performLot_57 : decode cX7_performLot 57 = .ok (.invokevirtual 173, 3) := by decide +kernel
theorem dX7_performLot_60 : decode cX7_performLot 60 = .ok (.pop, 1) := by decide +kernel
theorem dX7_performLot_61 : decode cX7_performLot 61 = .ok (.goto 38, 3) := by decide +kernel
theorem dX7_performLot_64 : decode cX7_performLot 64 = .ok (.aload_n 0, 1) := by decide +kernel
theorem dX7_performLot_65 : decode cX7_performLot 65 = .ok (.iconst 3, 1) := by decide +kernel
theorem dX7_performLot_66 : decode cX7_performLot 66 = .ok (.iconst 0, 1) := by decide +kernel
theorem dX7_performLot_67 : decode cX7_performLot 67 = .ok (.iconst 0, 1) := by decide +kernel
theorem dX7_performLot_68 : decode cX7_performLot 68 = .ok (.invokevirtual 173, 3) := by decide +kernel
theorem dX7_performLot_71 : decode cX7_performLot 71 = .ok (.pop, 1) := by decide +kernel
theorem dX7_performLot_72 : decode cX7_performLot 72 = .ok (.goto 27, 3) := by decide +kernel
theorem dX7_performLot_75 : decode cX7_performLot 75 = .ok (.aload_n 0, 1) := by decide +kernel
theorem dX7_performLot_76 : decode cX7_performLot 76 = .ok (.iconst 0, 1) := by decide +kernel
theorem dX7_performLot_77 : decode cX7_performLot 77 = .ok (.iload_n 1, 1) := by decide +kernel
theorem dX7_performLot_78 : decode cX7_performLot 78 = .ok (.aload_n 0, 1) := by decide +kernel
theorem dX7_performLot_79 : decode cX7_performLot 79 = .ok (.getfield 23, 3) := by decide +kernel
theorem dX7_performLot_82 : decode cX7_performLot 82 = .ok (.getfield 123, 3) := by decide +kernel
theorem dX7_performLot_85 : decode cX7_performLot 85 = .ok (.invokestatic 366, 3) := by decide +kernel
theorem dX7_performLot_88 : decode cX7_performLot 88 = .ok (.iload_n 1, 1) := by decide +kernel
theorem dX7_performLot_89 : decode cX7_performLot 89 = .ok (.bipush 64, 2) := by decide +kernel
theorem dX7_performLot_91 : decode cX7_performLot 91 = .ok (.idiv, 1) := by decide +kernel
theorem dX7_performLot_92 : decode cX7_performLot 92 = .ok (.bipush 100, 2) := by decide +kernel
theorem dX7_performLot_94 : decode cX7_performLot 94 = .ok (.irem, 1) := by decide +kernel
theorem dX7_performLot_95 : decode cX7_performLot 95 = .ok (.invokevirtual 173, 3) := by decide +kernel
theorem dX7_performLot_98 : decode cX7_performLot 98 = .ok (.pop, 1) := by decide +kernel
theorem dX7_performLot_99 : decode cX7_performLot 99 = .ok (.return_, 1) := by decide +kernel
theorem dX7_remainder_0 : decode cX7_remainder 0 = .ok (.iload_n 1, 1) := by decide +kernel
theorem dX7_remainder_1 : decode cX7_remainder 1 = .ok (.ifCond .le 9, 3) := by decide +kernel
theorem dX7_remainder_4 : decode cX7_remainder 4 = .ok (.iload_n 0, 1) := by decide +kernel
theorem dX7_remainder_5 : decode cX7_remainder 5 = .ok (.iload_n 1, 1) := by decide +kernel
theorem dX7_remainder_6 : decode cX7_remainder 6 = .ok (.irem, 1) := by decide +kernel
theorem dX7_remainder_7 : decode cX7_remainder 7 = .ok (.goto 4, 3) := by decide +kernel
theorem dX7_remainder_10 : decode cX7_remainder 10 = .ok (.iconst 0, 1) := by decide +kernel
theorem dX7_remainder_11 : decode cX7_remainder 11 = .ok (.ireturn, 1) := by decide +kernel
theorem dX7_lineBreath_0 : decode cX7_lineBreath 0 = .ok (.iconst 0, 1) := by decide +kernel
theorem dX7_lineBreath_1 : decode cX7_lineBreath 1 = .ok (.istore_n 3, 1) := by decide +kernel
theorem dX7_lineBreath_2 : decode cX7_lineBreath 2 = .ok (.iload_n 1, 1) := by decide +kernel
theorem dX7_lineBreath_3 : decode cX7_lineBreath 3 = .ok (.istore 4, 2) := by decide +kernel
theorem dX7_lineBreath_5 : decode cX7_lineBreath 5 = .ok (.iconst 0, 1) := by decide +kernel
theorem dX7_lineBreath_6 : decode cX7_lineBreath 6 = .ok (.istore 5, 2) := by decide +kernel
theorem dX7_lineBreath_8 : decode cX7_lineBreath 8 = .ok (.iload 5, 2) := by decide +kernel
theorem dX7_lineBreath_10 : decode cX7_lineBreath 10 = .ok (.iload_n 2, 1) := by decide +kernel
theorem dX7_lineBreath_11 : decode cX7_lineBreath 11 = .ok (.if_icmp .ge 49, 3) := by decide +kernel
theorem dX7_lineBreath_14 : decode cX7_lineBreath 14 = .ok (.aload_n 0, 1) := by decide +kernel
theorem dX7_lineBreath_15 : decode cX7_lineBreath 15 = .ok (.getfield 23, 3) := by decide +kernel
theorem dX7_lineBreath_18 : decode cX7_lineBreath 18 = .ok (.getfield 123, 3) := by decide +kernel
theorem dX7_lineBreath_21 : decode cX7_lineBreath 21 = .ok (.ifCond .le 39, 3) := by decide +kernel
theorem dX7_lineBreath_24 : decode cX7_lineBreath 24 = .ok (.iload_n 3, 1) := by decide +kernel
theorem dX7_lineBreath_25 : decode cX7_lineBreath 25 = .ok (.aload_n 0, 1) := by decide +kernel
theorem dX7_lineBreath_26 : decode cX7_lineBreath 26 = .ok (.getfield 49, 3) := by decide +kernel
theorem dX7_lineBreath_29 : decode cX7_lineBreath 29 = .ok (.iload 4, 2) := by decide +kernel
theorem dX7_lineBreath_31 : decode cX7_lineBreath 31 = .ok (.aload_n 0, 1) := by decide +kernel
theorem dX7_lineBreath_32 : decode cX7_lineBreath 32 = .ok (.getfield 23, 3) := by decide +kernel
theorem dX7_lineBreath_35 : decode cX7_lineBreath 35 = .ok (.getfield 123, 3) := by decide +kernel
theorem dX7_lineBreath_38 : decode cX7_lineBreath 38 = .ok (.irem, 1) := by decide +kernel
theorem dX7_lineBreath_39 : decode cX7_lineBreath 39 = .ok (.iaload, 1) := by decide +kernel
theorem dX7_lineBreath_40 : decode cX7_lineBreath 40 = .ok (.iadd, 1) := by decide +kernel
theorem dX7_lineBreath_41 : decode cX7_lineBreath 41 = .ok (.istore_n 3, 1) := by decide +kernel
theorem dX7_lineBreath_42 : decode cX7_lineBreath 42 = .ok (.iload 4, 2) := by decide +kernel
theorem dX7_lineBreath_44 : decode cX7_lineBreath 44 = .ok (.aload_n 0, 1) := by decide +kernel
theorem dX7_lineBreath_45 : decode cX7_lineBreath 45 = .ok (.getfield 23, 3) := by decide +kernel
theorem dX7_lineBreath_48 : decode cX7_lineBreath 48 = .ok (.getfield 123, 3) := by decide +kernel
theorem dX7_lineBreath_51 : decode cX7_lineBreath 51 = .ok (.idiv, 1) := by decide +kernel
theorem dX7_lineBreath_52 : decode cX7_lineBreath 52 = .ok (.istore 4, 2) := by decide +kernel
theorem dX7_lineBreath_54 : decode cX7_lineBreath 54 = .ok (.iinc 5 1, 3) := by decide +kernel
theorem dX7_lineBreath_57 : decode cX7_lineBreath 57 = .ok (.goto (-49), 3) := by decide +kernel
theorem dX7_lineBreath_60 : decode cX7_lineBreath 60 = .ok (.iload_n 3, 1) := by decide +kernel
theorem dX7_lineBreath_61 : decode cX7_lineBreath 61 = .ok (.ireturn, 1) := by decide +kernel
theorem dX7_writeLine_0 : decode cX7_writeLine 0 = .ok (.aload_n 1, 1) := by decide +kernel
theorem dX7_writeLine_1 : decode cX7_writeLine 1 = .ok (.iload_n 3, 1) := by decide +kernel
theorem dX7_writeLine_2 : decode cX7_writeLine 2 = .ok (.iconst 0, 1) := by decide +kernel
theorem dX7_writeLine_3 : decode cX7_writeLine 3 = .ok (.invokevirtual 330, 3) := by decide +kernel
theorem dX7_writeLine_6 : decode cX7_writeLine 6 = .ok (.iload_n 2, 1) := by decide +kernel
theorem dX7_writeLine_7 : decode cX7_writeLine 7 = .ok (.istore 4, 2) := by decide +kernel
theorem dX7_writeLine_9 : decode cX7_writeLine 9 = .ok (.iload_n 3, 1) := by decide +kernel
theorem dX7_writeLine_10 : decode cX7_writeLine 10 = .ok (.iconst 1, 1) := by decide +kernel
theorem dX7_writeLine_11 : decode cX7_writeLine 11 = .ok (.isub, 1) := by decide +kernel
theorem dX7_writeLine_12 : decode cX7_writeLine 12 = .ok (.istore 5, 2) := by decide +kernel
theorem dX7_writeLine_14 : decode cX7_writeLine 14 = .ok (.iload 5, 2) := by decide +kernel
theorem dX7_writeLine_16 : decode cX7_writeLine 16 = .ok (.ifCond .lt 47, 3) := by decide +kernel
theorem dX7_writeLine_19 : decode cX7_writeLine 19 = .ok (.aload_n 0, 1) := by decide +kernel
theorem dX7_writeLine_20 : decode cX7_writeLine 20 = .ok (.getfield 23, 3) := by decide +kernel
theorem dX7_writeLine_23 : decode cX7_writeLine 23 = .ok (.getfield 123, 3) := by decide +kernel
theorem dX7_writeLine_26 : decode cX7_writeLine 26 = .ok (.ifCond .le 37, 3) := by decide +kernel
theorem dX7_writeLine_29 : decode cX7_writeLine 29 = .ok (.aload_n 1, 1) := by decide +kernel
theorem dX7_writeLine_30 : decode cX7_writeLine 30 = .ok (.iload 5, 2) := by decide +kernel
theorem dX7_writeLine_32 : decode cX7_writeLine 32 = .ok (.iload 4, 2) := by decide +kernel
theorem dX7_writeLine_34 : decode cX7_writeLine 34 = .ok (.aload_n 0, 1) := by decide +kernel
theorem dX7_writeLine_35 : decode cX7_writeLine 35 = .ok (.getfield 23, 3) := by decide +kernel
theorem dX7_writeLine_38 : decode cX7_writeLine 38 = .ok (.getfield 123, 3) := by decide +kernel
theorem dX7_writeLine_41 : decode cX7_writeLine 41 = .ok (.irem, 1) := by decide +kernel
theorem dX7_writeLine_42 : decode cX7_writeLine 42 = .ok (.invokevirtual 85, 3) := by decide +kernel
theorem dX7_writeLine_45 : decode cX7_writeLine 45 = .ok (.iload 4, 2) := by decide +kernel
theorem dX7_writeLine_47 : decode cX7_writeLine 47 = .ok (.aload_n 0, 1) := by decide +kernel
theorem dX7_writeLine_48 : decode cX7_writeLine 48 = .ok (.getfield 23, 3) := by decide +kernel
theorem dX7_writeLine_51 : decode cX7_writeLine 51 = .ok (.getfield 123, 3) := by decide +kernel
theorem dX7_writeLine_54 : decode cX7_writeLine 54 = .ok (.idiv, 1) := by decide +kernel
theorem dX7_writeLine_55 : decode cX7_writeLine 55 = .ok (.istore 4, 2) := by decide +kernel
theorem dX7_writeLine_57 : decode cX7_writeLine 57 = .ok (.iinc 5 (-1), 3) := by decide +kernel
theorem dX7_writeLine_60 : decode cX7_writeLine 60 = .ok (.goto (-46), 3) := by decide +kernel
theorem dX7_writeLine_63 : decode cX7_writeLine 63 = .ok (.return_, 1) := by decide +kernel
theorem dX7_weighBreaths_0 : decode cX7_weighBreaths 0 = .ok (.iconst 0, 1) := by decide +kernel
theorem dX7_weighBreaths_1 : decode cX7_weighBreaths 1 = .ok (.istore_n 2, 1) := by decide +kernel
theorem dX7_weighBreaths_2 : decode cX7_weighBreaths 2 = .ok (.iload_n 2, 1) := by decide +kernel
theorem dX7_weighBreaths_3 : decode cX7_weighBreaths 3 = .ok (.aload_n 0, 1) := by decide +kernel
theorem dX7_weighBreaths_4 : decode cX7_weighBreaths 4 = .ok (.getfield 23, 3) := by decide +kernel
theorem dX7_weighBreaths_7 : decode cX7_weighBreaths 7 = .ok (.getfield 123, 3) := by decide +kernel
theorem dX7_weighBreaths_10 : decode cX7_weighBreaths 10 = .ok (.if_icmp .ge 28, 3) := by decide +kernel
theorem dX7_weighBreaths_13 : decode cX7_weighBreaths 13 = .ok (.aload_n 0, 1) := by decide +kernel
theorem dX7_weighBreaths_14 : decode cX7_weighBreaths 14 = .ok (.getfield 49, 3) := by decide +kernel
theorem dX7_weighBreaths_17 : decode cX7_weighBreaths 17 = .ok (.iload_n 2, 1) := by decide +kernel
theorem dX7_weighBreaths_18 : decode cX7_weighBreaths 18 = .ok (.aload_n 0, 1) := by decide +kernel
theorem dX7_weighBreaths_19 : decode cX7_weighBreaths 19 = .ok (.getfield 23, 3) := by decide +kernel
theorem dX7_weighBreaths_22 : decode cX7_weighBreaths 22 = .ok (.getfield 140, 3) := by decide +kernel
theorem dX7_weighBreaths_25 : decode cX7_weighBreaths 25 = .ok (.iload_n 2, 1) := by decide +kernel
theorem dX7_weighBreaths_26 : decode cX7_weighBreaths 26 = .ok (.iaload, 1) := by decide +kernel
theorem dX7_weighBreaths_27 : decode cX7_weighBreaths 27 = .ok (.iload_n 1, 1) := by decide +kernel
theorem dX7_weighBreaths_28 : decode cX7_weighBreaths 28 = .ok (.invokestatic 188, 3) := by decide +kernel
theorem dX7_weighBreaths_31 : decode cX7_weighBreaths 31 = .ok (.iastore, 1) := by decide +kernel
theorem dX7_weighBreaths_32 : decode cX7_weighBreaths 32 = .ok (.iinc 2 1, 3) := by decide +kernel
theorem dX7_weighBreaths_35 : decode cX7_weighBreaths 35 = .ok (.goto (-33), 3) := by decide +kernel
theorem dX7_weighBreaths_38 : decode cX7_weighBreaths 38 = .ok (.return_, 1) := by decide +kernel
theorem dX7_setBreath_0 : decode cX7_setBreath 0 = .ok (.iconst 0, 1) := by decide +kernel
theorem dX7_setBreath_1 : decode cX7_setBreath 1 = .ok (.istore_n 2, 1) := by decide +kernel
theorem dX7_setBreath_2 : decode cX7_setBreath 2 = .ok (.iconst 0, 1) := by decide +kernel
theorem dX7_setBreath_3 : decode cX7_setBreath 3 = .ok (.istore_n 3, 1) := by decide +kernel
theorem dX7_setBreath_4 : decode cX7_setBreath 4 = .ok (.iload_n 3, 1) := by decide +kernel
theorem dX7_setBreath_5 : decode cX7_setBreath 5 = .ok (.aload_n 0, 1) := by decide +kernel
theorem dX7_setBreath_6 : decode cX7_setBreath 6 = .ok (.getfield 23, 3) := by decide +kernel
theorem dX7_setBreath_9 : decode cX7_setBreath 9 = .ok (.getfield 123, 3) := by decide +kernel
theorem dX7_setBreath_12 : decode cX7_setBreath 12 = .ok (.if_icmp .ge 24, 3) := by decide +kernel
theorem dX7_setBreath_15 : decode cX7_setBreath 15 = .ok (.iload_n 2, 1) := by decide +kernel
theorem dX7_setBreath_16 : decode cX7_setBreath 16 = .ok (.iload_n 1, 1) := by decide +kernel
theorem dX7_setBreath_17 : decode cX7_setBreath 17 = .ok (.iload_n 3, 1) := by decide +kernel
theorem dX7_setBreath_18 : decode cX7_setBreath 18 = .ok (.ishr, 1) := by decide +kernel
theorem dX7_setBreath_19 : decode cX7_setBreath 19 = .ok (.iconst 1, 1) := by decide +kernel
theorem dX7_setBreath_20 : decode cX7_setBreath 20 = .ok (.iand, 1) := by decide +kernel
theorem dX7_setBreath_21 : decode cX7_setBreath 21 = .ok (.aload_n 0, 1) := by decide +kernel
theorem dX7_setBreath_22 : decode cX7_setBreath 22 = .ok (.getfield 49, 3) := by decide +kernel
theorem dX7_setBreath_25 : decode cX7_setBreath 25 = .ok (.iload_n 3, 1) := by decide +kernel
theorem dX7_setBreath_26 : decode cX7_setBreath 26 = .ok (.iaload, 1) := by decide +kernel
theorem dX7_setBreath_27 : decode cX7_setBreath 27 = .ok (.imul, 1) := by decide +kernel
theorem dX7_setBreath_28 : decode cX7_setBreath 28 = .ok (.iadd, 1) := by decide +kernel
theorem dX7_setBreath_29 : decode cX7_setBreath 29 = .ok (.istore_n 2, 1) := by decide +kernel
theorem dX7_setBreath_30 : decode cX7_setBreath 30 = .ok (.iinc 3 1, 3) := by decide +kernel
theorem dX7_setBreath_33 : decode cX7_setBreath 33 = .ok (.goto (-29), 3) := by decide +kernel
theorem dX7_setBreath_36 : decode cX7_setBreath 36 = .ok (.iload_n 2, 1) := by decide +kernel
theorem dX7_setBreath_37 : decode cX7_setBreath 37 = .ok (.ireturn, 1) := by decide +kernel
theorem dX7_setsWith_0 : decode cX7_setsWith 0 = .ok (.iconst 0, 1) := by decide +kernel
theorem dX7_setsWith_1 : decode cX7_setsWith 1 = .ok (.istore_n 3, 1) := by decide +kernel
theorem dX7_setsWith_2 : decode cX7_setsWith 2 = .ok (.iconst 0, 1) := by decide +kernel
theorem dX7_setsWith_3 : decode cX7_setsWith 3 = .ok (.istore 4, 2) := by decide +kernel
theorem dX7_setsWith_5 : decode cX7_setsWith 5 = .ok (.iload 4, 2) := by decide +kernel
theorem dX7_setsWith_7 : decode cX7_setsWith 7 = .ok (.iconst 1, 1) := by decide +kernel
theorem dX7_setsWith_8 : decode cX7_setsWith 8 = .ok (.aload_n 0, 1) := by decide +kernel
theorem dX7_setsWith_9 : decode cX7_setsWith 9 = .ok (.getfield 23, 3) := by decide +kernel
theorem dX7_setsWith_12 : decode cX7_setsWith 12 = .ok (.getfield 123, 3) := by decide +kernel
theorem dX7_setsWith_15 : decode cX7_setsWith 15 = .ok (.ishl, 1) := by decide +kernel
theorem dX7_setsWith_16 : decode cX7_setsWith 16 = .ok (.if_icmp .ge 30, 3) := by decide +kernel
theorem dX7_setsWith_19 : decode cX7_setsWith 19 = .ok (.iload 4, 2) := by decide +kernel
theorem dX7_setsWith_21 : decode cX7_setsWith 21 = .ok (.iload_n 1, 1) := by decide +kernel
theorem dX7_setsWith_22 : decode cX7_setsWith 22 = .ok (.iand, 1) := by decide +kernel
theorem dX7_setsWith_23 : decode cX7_setsWith 23 = .ok (.iload_n 1, 1) := by decide +kernel
theorem dX7_setsWith_24 : decode cX7_setsWith 24 = .ok (.if_icmp .ne 16, 3) := by decide +kernel
theorem dX7_setsWith_27 : decode cX7_setsWith 27 = .ok (.aload_n 0, 1) := by decide +kernel
theorem dX7_setsWith_28 : decode cX7_setsWith 28 = .ok (.iload 4, 2) := by decide +kernel
theorem dX7_setsWith_30 : decode cX7_setsWith 30 = .ok (.invokevirtual 369, 3) := by decide +kernel
theorem dX7_setsWith_33 : decode cX7_setsWith 33 = .ok (.iload_n 2, 1) := by decide +kernel
theorem dX7_setsWith_34 : decode cX7_setsWith 34 = .ok (.if_icmp .ne 6, 3) := by decide +kernel
theorem dX7_setsWith_37 : decode cX7_setsWith 37 = .ok (.iinc 3 1, 3) := by decide +kernel
theorem dX7_setsWith_40 : decode cX7_setsWith 40 = .ok (.iinc 4 1, 3) := by decide +kernel
theorem dX7_setsWith_43 : decode cX7_setsWith 43 = .ok (.goto (-38), 3) := by decide +kernel
theorem dX7_setsWith_46 : decode cX7_setsWith 46 = .ok (.iload_n 3, 1) := by decide +kernel
theorem dX7_setsWith_47 : decode cX7_setsWith 47 = .ok (.ireturn, 1) := by decide +kernel
theorem dX7_firstSet_0 : decode cX7_firstSet 0 = .ok (.iconst 0, 1) := by decide +kernel
theorem dX7_firstSet_1 : decode cX7_firstSet 1 = .ok (.istore_n 2, 1) := by decide +kernel
theorem dX7_firstSet_2 : decode cX7_firstSet 2 = .ok (.iload_n 2, 1) := by decide +kernel
theorem dX7_firstSet_3 : decode cX7_firstSet 3 = .ok (.iconst 1, 1) := by decide +kernel
theorem dX7_firstSet_4 : decode cX7_firstSet 4 = .ok (.aload_n 0, 1) := by decide +kernel
theorem dX7_firstSet_5 : decode cX7_firstSet 5 = .ok (.getfield 23, 3) := by decide +kernel
theorem dX7_firstSet_8 : decode cX7_firstSet 8 = .ok (.getfield 123, 3) := by decide +kernel
theorem dX7_firstSet_11 : decode cX7_firstSet 11 = .ok (.ishl, 1) := by decide +kernel
theorem dX7_firstSet_12 : decode cX7_firstSet 12 = .ok (.if_icmp .ge 20, 3) := by decide +kernel
theorem dX7_firstSet_15 : decode cX7_firstSet 15 = .ok (.aload_n 0, 1) := by decide +kernel
theorem dX7_firstSet_16 : decode cX7_firstSet 16 = .ok (.iload_n 2, 1) := by decide +kernel
theorem dX7_firstSet_17 : decode cX7_firstSet 17 = .ok (.invokevirtual 369, 3) := by decide +kernel
theorem dX7_firstSet_20 : decode cX7_firstSet 20 = .ok (.iload_n 1, 1) := by decide +kernel
theorem dX7_firstSet_21 : decode cX7_firstSet 21 = .ok (.if_icmp .ne 5, 3) := by decide +kernel
theorem dX7_firstSet_24 : decode cX7_firstSet 24 = .ok (.iload_n 2, 1) := by decide +kernel
theorem dX7_firstSet_25 : decode cX7_firstSet 25 = .ok (.ireturn, 1) := by decide +kernel
theorem dX7_firstSet_26 : decode cX7_firstSet 26 = .ok (.iinc 2 1, 3) := by decide +kernel
theorem dX7_firstSet_29 : decode cX7_firstSet 29 = .ok (.goto (-27), 3) := by decide +kernel
theorem dX7_firstSet_32 : decode cX7_firstSet 32 = .ok (.bipush (-9), 2) := by decide +kernel
theorem dX7_firstSet_34 : decode cX7_firstSet 34 = .ok (.ireturn, 1) := by decide +kernel
theorem dX7_tellWorth_0 : decode cX7_tellWorth 0 = .ok (.aload_n 0, 1) := by decide +kernel
theorem dX7_tellWorth_1 : decode cX7_tellWorth 1 = .ok (.getfield 53, 3) := by decide +kernel
theorem dX7_tellWorth_4 : decode cX7_tellWorth 4 = .ok (.iload_n 1, 1) := by decide +kernel
theorem dX7_tellWorth_5 : decode cX7_tellWorth 5 = .ok (.laload, 1) := by decide +kernel
theorem dX7_tellWorth_6 : decode cX7_tellWorth 6 = .ok (.lstore_n 3, 1) := by decide +kernel
theorem dX7_tellWorth_7 : decode cX7_tellWorth 7 = .ok (.lconst 1, 1) := by decide +kernel
theorem dX7_tellWorth_8 : decode cX7_tellWorth 8 = .ok (.lstore 5, 2) := by decide +kernel
theorem dX7_tellWorth_10 : decode cX7_tellWorth 10 = .ok (.iload_n 1, 1) := by decide +kernel
theorem dX7_tellWorth_11 : decode cX7_tellWorth 11 = .ok (.iconst 1, 1) := by decide +kernel
theorem dX7_tellWorth_12 : decode cX7_tellWorth 12 = .ok (.isub, 1) := by decide +kernel
theorem dX7_tellWorth_13 : decode cX7_tellWorth 13 = .ok (.istore 7, 2) := by decide +kernel
theorem dX7_tellWorth_15 : decode cX7_tellWorth 15 = .ok (.iload 7, 2) := by decide +kernel
theorem dX7_tellWorth_17 : decode cX7_tellWorth 17 = .ok (.ifCond .lt 39, 3) := by decide +kernel
theorem dX7_tellWorth_20 : decode cX7_tellWorth 20 = .ok (.iload_n 2, 1) := by decide +kernel
theorem dX7_tellWorth_21 : decode cX7_tellWorth 21 = .ok (.i2l, 1) := by decide +kernel
theorem dX7_tellWorth_22 : decode cX7_tellWorth 22 = .ok (.aload_n 0, 1) := by decide +kernel
theorem dX7_tellWorth_23 : decode cX7_tellWorth 23 = .ok (.getfield 53, 3) := by decide +kernel
theorem dX7_tellWorth_26 : decode cX7_tellWorth 26 = .ok (.iload 7, 2) := by decide +kernel
theorem dX7_tellWorth_28 : decode cX7_tellWorth 28 = .ok (.laload, 1) := by decide +kernel
theorem dX7_tellWorth_29 : decode cX7_tellWorth 29 = .ok (.lmul, 1) := by decide +kernel
theorem dX7_tellWorth_30 : decode cX7_tellWorth 30 = .ok (.lload 5, 2) := by decide +kernel
theorem dX7_tellWorth_32 : decode cX7_tellWorth 32 = .ok (.lmul, 1) := by decide +kernel
theorem dX7_tellWorth_33 : decode cX7_tellWorth 33 = .ok (.bipush 12, 2) := by decide +kernel
theorem dX7_tellWorth_35 : decode cX7_tellWorth 35 = .ok (.iload_n 2, 1) := by decide +kernel
theorem dX7_tellWorth_36 : decode cX7_tellWorth 36 = .ok (.isub, 1) := by decide +kernel
theorem dX7_tellWorth_37 : decode cX7_tellWorth 37 = .ok (.i2l, 1) := by decide +kernel
theorem dX7_tellWorth_38 : decode cX7_tellWorth 38 = .ok (.lload_n 3, 1) := by decide +kernel
theorem dX7_tellWorth_39 : decode cX7_tellWorth 39 = .ok (.lmul, 1) := by decide +kernel
theorem dX7_tellWorth_40 : decode cX7_tellWorth 40 = .ok (.ladd, 1) := by decide +kernel
theorem dX7_tellWorth_41 : decode cX7_tellWorth 41 = .ok (.lstore_n 3, 1) := by decide +kernel
theorem dX7_tellWorth_42 : decode cX7_tellWorth 42 = .ok (.lload 5, 2) := by decide +kernel
theorem dX7_tellWorth_44 : decode cX7_tellWorth 44 = .ok (.ldc2_w 372, 3) := by decide +kernel
theorem dX7_tellWorth_47 : decode cX7_tellWorth 47 = .ok (.lmul, 1) := by decide +kernel
theorem dX7_tellWorth_48 : decode cX7_tellWorth 48 = .ok (.lstore 5, 2) := by decide +kernel
theorem dX7_tellWorth_50 : decode cX7_tellWorth 50 = .ok (.iinc 7 (-1), 3) := by decide +kernel
theorem dX7_tellWorth_53 : decode cX7_tellWorth 53 = .ok (.goto (-38), 3) := by decide +kernel
theorem dX7_tellWorth_56 : decode cX7_tellWorth 56 = .ok (.aload_n 0, 1) := by decide +kernel
theorem dX7_tellWorth_57 : decode cX7_tellWorth 57 = .ok (.lload_n 3, 1) := by decide +kernel
theorem dX7_tellWorth_58 : decode cX7_tellWorth 58 = .ok (.lload 5, 2) := by decide +kernel
theorem dX7_tellWorth_60 : decode cX7_tellWorth 60 = .ok (.invokevirtual 235, 3) := by decide +kernel
theorem dX7_tellWorth_63 : decode cX7_tellWorth 63 = .ok (.return_, 1) := by decide +kernel
theorem dX7_tell_0 : decode cX7_tell 0 = .ok (.lload_n 1, 1) := by decide +kernel
theorem dX7_tell_1 : decode cX7_tell 1 = .ok (.lload_n 3, 1) := by decide +kernel
theorem dX7_tell_2 : decode cX7_tell 2 = .ok (.invokestatic 374, 3) := by decide +kernel
theorem dX7_tell_5 : decode cX7_tell 5 = .ok (.lstore 5, 2) := by decide +kernel
theorem dX7_tell_7 : decode cX7_tell 7 = .ok (.lload 5, 2) := by decide +kernel
theorem dX7_tell_9 : decode cX7_tell 9 = .ok (.lconst 0, 1) := by decide +kernel
theorem dX7_tell_10 : decode cX7_tell 10 = .ok (.lcmp, 1) := by decide +kernel
theorem dX7_tell_11 : decode cX7_tell 11 = .ok (.ifCond .le 19, 3) := by decide +kernel
theorem dX7_tell_14 : decode cX7_tell 14 = .ok (.aload_n 0, 1) := by decide +kernel
theorem dX7_tell_15 : decode cX7_tell 15 = .ok (.lload_n 1, 1) := by decide +kernel
theorem dX7_tell_16 : decode cX7_tell 16 = .ok (.lload 5, 2) := by decide +kernel
theorem dX7_tell_18 : decode cX7_tell 18 = .ok (.ldiv, 1) := by decide +kernel
theorem dX7_tell_19 : decode cX7_tell 19 = .ok (.putfield 289, 3) := by decide +kernel
theorem dX7_tell_22 : decode cX7_tell 22 = .ok (.aload_n 0, 1) := by decide +kernel
theorem dX7_tell_23 : decode cX7_tell 23 = .ok (.lload_n 3, 1) := by decide +kernel
theorem dX7_tell_24 : decode cX7_tell 24 = .ok (.lload 5, 2) := by decide +kernel
theorem dX7_tell_26 : decode cX7_tell 26 = .ok (.ldiv, 1) := by decide +kernel
theorem dX7_tell_27 : decode cX7_tell 27 = .ok (.putfield 60, 3) := by decide +kernel
theorem dX7_tell_30 : decode cX7_tell 30 = .ok (.return_, 1) := by decide +kernel
theorem dX7_commonDivisor_0 : decode cX7_commonDivisor 0 = .ok (.lload_n 0, 1) := by decide +kernel
theorem dX7_commonDivisor_1 : decode cX7_commonDivisor 1 = .ok (.lstore 4, 2) := by decide +kernel
theorem dX7_commonDivisor_3 : decode cX7_commonDivisor 3 = .ok (.lload_n 2, 1) := by decide +kernel
theorem dX7_commonDivisor_4 : decode cX7_commonDivisor 4 = .ok (.lstore 6, 2) := by decide +kernel
theorem dX7_commonDivisor_6 : decode cX7_commonDivisor 6 = .ok (.iconst 0, 1) := by decide +kernel
theorem dX7_commonDivisor_7 : decode cX7_commonDivisor 7 = .ok (.istore 8, 2) := by decide +kernel
theorem dX7_commonDivisor_9 : decode cX7_commonDivisor 9 = .ok (.iload 8, 2) := by decide +kernel
theorem dX7_commonDivisor_11 : decode cX7_commonDivisor 11 = .ok (.sipush 200, 3) := by decide +kernel
theorem dX7_commonDivisor_14 : decode cX7_commonDivisor 14 = .ok (.if_icmp .ge 31, 3) := by decide +kernel
theorem dX7_commonDivisor_17 : decode cX7_commonDivisor 17 = .ok (.lload 6, 2) := by decide +kernel
theorem dX7_commonDivisor_19 : decode cX7_commonDivisor 19 = .ok (.lconst 0, 1) := by decide +kernel
theorem dX7_commonDivisor_20 : decode cX7_commonDivisor 20 = .ok (.lcmp, 1) := by decide +kernel
theorem dX7_commonDivisor_21 : decode cX7_commonDivisor 21 = .ok (.ifCond .eq 24, 3) := by decide +kernel
theorem dX7_commonDivisor_24 : decode cX7_commonDivisor 24 = .ok (.lload 4, 2) := by decide +kernel
theorem dX7_commonDivisor_26 : decode cX7_commonDivisor 26 = .ok (.lload 6, 2) := by decide +kernel
theorem dX7_commonDivisor_28 : decode cX7_commonDivisor 28 = .ok (.lrem, 1) := by decide +kernel
theorem dX7_commonDivisor_29 : decode cX7_commonDivisor 29 = .ok (.lstore 9, 2) := by decide +kernel
theorem dX7_commonDivisor_31 : decode cX7_commonDivisor 31 = .ok (.lload 6, 2) := by decide +kernel
theorem dX7_commonDivisor_33 : decode cX7_commonDivisor 33 = .ok (.lstore 4, 2) := by decide +kernel
theorem dX7_commonDivisor_35 : decode cX7_commonDivisor 35 = .ok (.lload 9, 2) := by decide +kernel
theorem dX7_commonDivisor_37 : decode cX7_commonDivisor 37 = .ok (.lstore 6, 2) := by decide +kernel
theorem dX7_commonDivisor_39 : decode cX7_commonDivisor 39 = .ok (.iinc 8 1, 3) := by decide +kernel
theorem dX7_commonDivisor_42 : decode cX7_commonDivisor 42 = .ok (.goto (-33), 3) := by decide +kernel
theorem dX7_commonDivisor_45 : decode cX7_commonDivisor 45 = .ok (.lload 4, 2) := by decide +kernel
theorem dX7_commonDivisor_47 : decode cX7_commonDivisor 47 = .ok (.lreturn, 1) := by decide +kernel
