theorem dX8_wrongPairs_103 : decode cX8_wrongPairs 103 = .ok (.iconst 3, 1) := by decide +kernel
theorem dX8_wrongPairs_104 : decode cX8_wrongPairs 104 = .ok (.invokevirtual 73, 3) := by decide +kernel
theorem dX8_wrongPairs_107 : decode cX8_wrongPairs 107 = .ok (.ireturn, 1) := by decide +kernel
theorem dX8_saidSo_0 : decode cX8_saidSo 0 = .ok (.iconst 1, 1) := by decide +kernel
theorem dX8_saidSo_1 : decode cX8_saidSo 1 = .ok (.istore_n 3, 1) := by decide +kernel
theorem dX8_saidSo_2 : decode cX8_saidSo 2 = .ok (.iconst 0, 1) := by decide +kernel
theorem dX8_saidSo_3 : decode cX8_saidSo 3 = .ok (.istore 4, 2) := by decide +kernel
theorem dX8_saidSo_5 : decode cX8_saidSo 5 = .ok (.iload 4, 2) := by decide +kernel
theorem dX8_saidSo_7 : decode cX8_saidSo 7 = .ok (.aload_n 0, 1) := by decide +kernel
theorem dX8_saidSo_8 : decode cX8_saidSo 8 = .ok (.getfield 7, 3) := by decide +kernel
theorem dX8_saidSo_11 : decode cX8_saidSo 11 = .ok (.iload_n 1, 1) := by decide +kernel
theorem dX8_saidSo_12 : decode cX8_saidSo 12 = .ok (.iaload, 1) := by decide +kernel
theorem dX8_saidSo_13 : decode cX8_saidSo 13 = .ok (.if_icmp .ge 52, 3) := by decide +kernel
theorem dX8_saidSo_16 : decode cX8_saidSo 16 = .ok (.iload_n 3, 1) := by decide +kernel
theorem dX8_saidSo_17 : decode cX8_saidSo 17 = .ok (.ifCond .eq 40, 3) := by decide +kernel
theorem dX8_saidSo_20 : decode cX8_saidSo 20 = .ok (.iload_n 2, 1) := by decide +kernel
theorem dX8_saidSo_21 : decode cX8_saidSo 21 = .ok (.aload_n 0, 1) := by decide +kernel
theorem dX8_saidSo_22 : decode cX8_saidSo 22 = .ok (.getfield 13, 3) := by decide +kernel
theorem dX8_saidSo_25 : decode cX8_saidSo 25 = .ok (.bipush 40, 2) := by decide +kernel
theorem dX8_saidSo_27 : decode cX8_saidSo 27 = .ok (.iload_n 1, 1) := by decide +kernel
theorem dX8_saidSo_28 : decode cX8_saidSo 28 = .ok (.imul, 1) := by decide +kernel
theorem dX8_saidSo_29 : decode cX8_saidSo 29 = .ok (.iload 4, 2) := by decide +kernel
theorem dX8_saidSo_31 : decode cX8_saidSo 31 = .ok (.iadd, 1) := by decide +kernel
theorem dX8_saidSo_32 : decode cX8_saidSo 32 = .ok (.iaload, 1) := by decide +kernel
theorem dX8_saidSo_33 : decode cX8_saidSo 33 = .ok (.invokestatic 140, 3) := by decide +kernel
theorem dX8_saidSo_36 : decode cX8_saidSo 36 = .ok (.aload_n 0, 1) := by decide +kernel
theorem dX8_saidSo_37 : decode cX8_saidSo 37 = .ok (.getfield 13, 3) := by decide +kernel
theorem dX8_saidSo_40 : decode cX8_saidSo 40 = .ok (.bipush 40, 2) := by decide +kernel
theorem dX8_saidSo_42 : decode cX8_saidSo 42 = .ok (.iload_n 1, 1) := by decide +kernel
theorem dX8_saidSo_43 : decode cX8_saidSo 43 = .ok (.imul, 1) := by decide +kernel
theorem dX8_saidSo_44 : decode cX8_saidSo 44 = .ok (.iload 4, 2) := by decide +kernel
theorem dX8_saidSo_46 : decode cX8_saidSo 46 = .ok (.iadd, 1) := by decide +kernel
theorem dX8_saidSo_47 : decode cX8_saidSo 47 = .ok (.iconst 1, 1) := by decide +kernel
theorem dX8_saidSo_48 : decode cX8_saidSo 48 = .ok (.iadd, 1) := by decide +kernel
theorem dX8_saidSo_49 : decode cX8_saidSo 49 = .ok (.iaload, 1) := by decide +kernel
theorem dX8_saidSo_50 : decode cX8_saidSo 50 = .ok (.if_icmp .ne 7, 3) := by decide +kernel
theorem dX8_saidSo_53 : decode cX8_saidSo 53 = .ok (.iconst 1, 1) := by decide +kernel
theorem dX8_saidSo_54 : decode cX8_saidSo 54 = .ok (.goto 4, 3) := by decide +kernel
theorem dX8_saidSo_57 : decode cX8_saidSo 57 = .ok (.iconst 0, 1) := by decide +kernel
theorem dX8_saidSo_58 : decode cX8_saidSo 58 = .ok (.istore_n 3, 1) := by decide +kernel
theorem dX8_saidSo_59 : decode cX8_saidSo 59 = .ok (.iinc 4 2, 3) := by decide +kernel
theorem dX8_saidSo_62 : decode cX8_saidSo 62 = .ok (.goto (-57), 3) := by decide +kernel
theorem dX8_saidSo_65 : decode cX8_saidSo 65 = .ok (.iload_n 3, 1) := by decide +kernel
theorem dX8_saidSo_66 : decode cX8_saidSo 66 = .ok (.ireturn, 1) := by decide +kernel
theorem dX8_kindsBy_0 : decode cX8_kindsBy 0 = .ok (.iconst 0, 1) := by decide +kernel
theorem dX8_kindsBy_1 : decode cX8_kindsBy 1 = .ok (.istore_n 2, 1) := by decide +kernel
theorem dX8_kindsBy_2 : decode cX8_kindsBy 2 = .ok (.iconst 0, 1) := by decide +kernel
theorem dX8_kindsBy_3 : decode cX8_kindsBy 3 = .ok (.istore_n 3, 1) := by decide +kernel
theorem dX8_kindsBy_4 : decode cX8_kindsBy 4 = .ok (.iload_n 3, 1) := by decide +kernel
theorem dX8_kindsBy_5 : decode cX8_kindsBy 5 = .ok (.bipush 6, 2) := by decide +kernel
theorem dX8_kindsBy_7 : decode cX8_kindsBy 7 = .ok (.if_icmp .ge 28, 3) := by decide +kernel
theorem dX8_kindsBy_10 : decode cX8_kindsBy 10 = .ok (.iload_n 2, 1) := by decide +kernel
theorem dX8_kindsBy_11 : decode cX8_kindsBy 11 = .ok (.aload_n 0, 1) := by decide +kernel
theorem dX8_kindsBy_12 : decode cX8_kindsBy 12 = .ok (.iload_n 1, 1) := by decide +kernel
theorem dX8_kindsBy_13 : decode cX8_kindsBy 13 = .ok (.iload_n 3, 1) := by decide +kernel
theorem dX8_kindsBy_14 : decode cX8_kindsBy 14 = .ok (.invokevirtual 210, 3) := by decide +kernel
theorem dX8_kindsBy_17 : decode cX8_kindsBy 17 = .ok (.ifCond .eq 9, 3) := by decide +kernel
theorem dX8_kindsBy_20 : decode cX8_kindsBy 20 = .ok (.iconst 1, 1) := by decide +kernel
theorem dX8_kindsBy_21 : decode cX8_kindsBy 21 = .ok (.iload_n 3, 1) := by decide +kernel
theorem dX8_kindsBy_22 : decode cX8_kindsBy 22 = .ok (.ishl, 1) := by decide +kernel
theorem dX8_kindsBy_23 : decode cX8_kindsBy 23 = .ok (.goto 4, 3) := by decide +kernel
theorem dX8_kindsBy_26 : decode cX8_kindsBy 26 = .ok (.iconst 0, 1) := by decide +kernel
theorem dX8_kindsBy_27 : decode cX8_kindsBy 27 = .ok (.ior, 1) := by decide +kernel
theorem dX8_kindsBy_28 : decode cX8_kindsBy 28 = .ok (.istore_n 2, 1) := by decide +kernel
theorem dX8_kindsBy_29 : decode cX8_kindsBy 29 = .ok (.iinc 3 1, 3) := by decide +kernel
theorem dX8_kindsBy_32 : decode cX8_kindsBy 32 = .ok (.goto (-28), 3) := by decide +kernel
theorem dX8_kindsBy_35 : decode cX8_kindsBy 35 = .ok (.iload_n 2, 1) := by decide +kernel
theorem dX8_kindsBy_36 : decode cX8_kindsBy 36 = .ok (.ireturn, 1) := by decide +kernel
theorem dX8_who_0 : decode cX8_who 0 = .ok (.iload_n 1, 1) := by decide +kernel
theorem dX8_who_1 : decode cX8_who 1 = .ok (.iconst 0, 1) := by decide +kernel
theorem dX8_who_2 : decode cX8_who 2 = .ok (.iconst 5, 1) := by decide +kernel
theorem dX8_who_3 : decode cX8_who 3 = .ok (.invokestatic 66, 3) := by decide +kernel
theorem dX8_who_6 : decode cX8_who 6 = .ok (.ifCond .ne 5, 3) := by decide +kernel
theorem dX8_who_9 : decode cX8_who 9 = .ok (.iconst (-1), 1) := by decide +kernel
theorem dX8_who_10 : decode cX8_who 10 = .ok (.ireturn, 1) := by decide +kernel
theorem dX8_who_11 : decode cX8_who 11 = .ok (.aload_n 0, 1) := by decide +kernel
theorem dX8_who_12 : decode cX8_who 12 = .ok (.iload_n 1, 1) := by decide +kernel
theorem dX8_who_13 : decode cX8_who 13 = .ok (.invokevirtual 213, 3) := by decide +kernel
theorem dX8_who_16 : decode cX8_who 16 = .ok (.ifCond .eq 6, 3) := by decide +kernel
theorem dX8_who_19 : decode cX8_who 19 = .ok (.bipush (-3), 2) := by decide +kernel
theorem dX8_who_21 : decode cX8_who 21 = .ok (.ireturn, 1) := by decide +kernel
theorem dX8_who_22 : decode cX8_who 22 = .ok (.iconst 0, 1) := by decide +kernel
theorem dX8_who_23 : decode cX8_who 23 = .ok (.istore_n 2, 1) := by decide +kernel
theorem dX8_who_24 : decode cX8_who 24 = .ok (.iconst 0, 1) := by decide +kernel
theorem dX8_who_25 : decode cX8_who 25 = .ok (.istore_n 3, 1) := by decide +kernel
theorem dX8_who_26 : decode cX8_who 26 = .ok (.iload_n 3, 1) := by decide +kernel
theorem dX8_who_27 : decode cX8_who 27 = .ok (.aload_n 0, 1) := by decide +kernel
theorem dX8_who_28 : decode cX8_who 28 = .ok (.getfield 63, 3) := by decide +kernel
theorem dX8_who_31 : decode cX8_who 31 = .ok (.if_icmp .ge 33, 3) := by decide +kernel
theorem dX8_who_34 : decode cX8_who 34 = .ok (.iload_n 2, 1) := by decide +kernel
theorem dX8_who_35 : decode cX8_who 35 = .ok (.aload_n 0, 1) := by decide +kernel
theorem dX8_who_36 : decode cX8_who 36 = .ok (.iload_n 1, 1) := by decide +kernel
theorem dX8_who_37 : decode cX8_who 37 = .ok (.aload_n 0, 1) := by decide +kernel
theorem dX8_who_38 : decode cX8_who 38 = .ok (.getfield 32, 3) := by decide +kernel
theorem dX8_who_41 : decode cX8_who 41 = .ok (.iload_n 3, 1) := by decide +kernel
theorem dX8_who_42 : decode cX8_who 42 = .ok (.iaload, 1) := by decide +kernel
theorem dX8_who_43 : decode cX8_who 43 = .ok (.invokevirtual 210, 3) := by decide +kernel
theorem dX8_who_46 : decode cX8_who 46 = .ok (.ifCond .eq 9, 3) := by decide +kernel
theorem dX8_who_49 : decode cX8_who 49 = .ok (.iconst 1, 1) := by decide +kernel
theorem dX8_who_50 : decode cX8_who 50 = .ok (.iload_n 3, 1) := by decide +kernel
theorem dX8_who_51 : decode cX8_who 51 = .ok (.ishl, 1) := by decide +kernel
theorem dX8_who_52 : decode cX8_who 52 = .ok (.goto 4, 3) := by decide +kernel
theorem dX8_who_55 : decode cX8_who 55 = .ok (.iconst 0, 1) := by decide +kernel
theorem dX8_who_56 : decode cX8_who 56 = .ok (.ior, 1) := by decide +kernel
theorem dX8_who_57 : decode cX8_who 57 = .ok (.istore_n 2, 1) := by decide +kernel
theorem dX8_who_58 : decode cX8_who 58 = .ok (.iinc 3 1, 3) := by decide +kernel
theorem dX8_who_61 : decode cX8_who 61 = .ok (.goto (-35), 3) := by decide +kernel
theorem dX8_who_64 : decode cX8_who 64 = .ok (.iload_n 2, 1) := by decide +kernel
theorem dX8_who_65 : decode cX8_who 65 = .ok (.ireturn, 1) := by decide +kernel
theorem dX8_kinds_0 : decode cX8_kinds 0 = .ok (.iload_n 1, 1) := by decide +kernel
theorem dX8_kinds_1 : decode cX8_kinds 1 = .ok (.iconst 0, 1) := by decide +kernel
theorem dX8_kinds_2 : decode cX8_kinds 2 = .ok (.iconst 5, 1) := by decide +kernel
theorem dX8_kinds_3 : decode cX8_kinds 3 = .ok (.invokestatic 66, 3) := by decide +kernel
theorem dX8_kinds_6 : decode cX8_kinds 6 = .ok (.ifCond .ne 5, 3) := by decide +kernel
theorem dX8_kinds_9 : decode cX8_kinds 9 = .ok (.iconst (-1), 1) := by decide +kernel
theorem dX8_kinds_10 : decode cX8_kinds 10 = .ok (.ireturn, 1) := by decide +kernel
theorem dX8_kinds_11 : decode cX8_kinds 11 = .ok (.aload_n 0, 1) := by decide +kernel
theorem dX8_kinds_12 : decode cX8_kinds 12 = .ok (.iload_n 1, 1) := by decide +kernel
theorem dX8_kinds_13 : decode cX8_kinds 13 = .ok (.invokevirtual 213, 3) := by decide +kernel
theorem dX8_kinds_16 : decode cX8_kinds 16 = .ok (.ifCond .eq 8, 3) := by decide +kernel
theorem dX8_kinds_19 : decode cX8_kinds 19 = .ok (.bipush (-3), 2) := by decide +kernel
theorem dX8_kinds_21 : decode cX8_kinds 21 = .ok (.goto 8, 3) := by decide +kernel
theorem dX8_kinds_24 : decode cX8_kinds 24 = .ok (.aload_n 0, 1) := by decide +kernel
theorem dX8_kinds_25 : decode cX8_kinds 25 = .ok (.iload_n 1, 1) := by decide +kernel
theorem dX8_kinds_26 : decode cX8_kinds 26 = .ok (.invokevirtual 216, 3) := by decide +kernel
theorem dX8_kinds_29 : decode cX8_kinds 29 = .ok (.ireturn, 1) := by decide +kernel
theorem dX8_test_0 : decode cX8_test 0 = .ok (.iload_n 1, 1) := by decide +kernel
theorem dX8_test_1 : decode cX8_test 1 = .ok (.iconst 0, 1) := by decide +kernel
theorem dX8_test_2 : decode cX8_test 2 = .ok (.iconst 5, 1) := by decide +kernel
theorem dX8_test_3 : decode cX8_test 3 = .ok (.invokestatic 66, 3) := by decide +kernel
theorem dX8_test_6 : decode cX8_test 6 = .ok (.ifCond .ne 5, 3) := by decide +kernel
theorem dX8_test_9 : decode cX8_test 9 = .ok (.iconst (-1), 1) := by decide +kernel
theorem dX8_test_10 : decode cX8_test 10 = .ok (.ireturn, 1) := by decide +kernel
theorem dX8_test_11 : decode cX8_test 11 = .ok (.aload_n 0, 1) := by decide +kernel
theorem dX8_test_12 : decode cX8_test 12 = .ok (.iload_n 1, 1) := by decide +kernel
theorem dX8_test_13 : decode cX8_test 13 = .ok (.invokevirtual 213, 3) := by decide +kernel
theorem dX8_test_16 : decode cX8_test 16 = .ok (.ifCond .eq 6, 3) := by decide +kernel
theorem dX8_test_19 : decode cX8_test 19 = .ok (.bipush (-3), 2) := by decide +kernel
theorem dX8_test_21 : decode cX8_test 21 = .ok (.ireturn, 1) := by decide +kernel
theorem dX8_test_22 : decode cX8_test 22 = .ok (.aload_n 0, 1) := by decide +kernel
theorem dX8_test_23 : decode cX8_test 23 = .ok (.iload_n 1, 1) := by decide +kernel
theorem dX8_test_24 : decode cX8_test 24 = .ok (.invokevirtual 216, 3) := by decide +kernel
theorem dX8_test_27 : decode cX8_test 27 = .ok (.istore_n 2, 1) := by decide +kernel
theorem dX8_test_28 : decode cX8_test 28 = .ok (.iload_n 2, 1) := by decide +kernel
theorem dX8_test_29 : decode cX8_test 29 = .ok (.ifCond .ne 6, 3) := by decide +kernel
theorem dX8_test_32 : decode cX8_test 32 = .ok (.bipush (-9), 2) := by decide +kernel
theorem dX8_test_34 : decode cX8_test 34 = .ok (.ireturn, 1) := by decide +kernel
theorem dX8_test_35 : decode cX8_test 35 = .ok (.bipush (-9), 2) := by decide +kernel
theorem dX8_test_37 : decode cX8_test 37 = .ok (.istore_n 3, 1) := by decide +kernel
theorem dX8_test_38 : decode cX8_test 38 = .ok (.iconst 0, 1) := by decide +kernel
theorem dX8_test_39 : decode cX8_test 39 = .ok (.istore 4, 2) := by decide +kernel
theorem dX8_test_41 : decode cX8_test 41 = .ok (.iconst 0, 1) := by decide +kernel
theorem dX8_test_42 : decode cX8_test 42 = .ok (.istore 5, 2) := by decide +kernel
theorem dX8_test_44 : decode cX8_test 44 = .ok (.iload 5, 2) := by decide +kernel
theorem dX8_test_46 : decode cX8_test 46 = .ok (.bipush 100, 2) := by decide +kernel
theorem dX8_test_48 : decode cX8_test 48 = .ok (.if_icmp .ge 154, 3) := by decide +kernel
theorem dX8_test_51 : decode cX8_test 51 = .ok (.iconst 0, 1) := by decide +kernel
theorem dX8_test_52 : decode cX8_test 52 = .ok (.istore 6, 2) := by decide +kernel
theorem dX8_test_54 : decode cX8_test 54 = .ok (.iconst 0, 1) := by decide +kernel
theorem dX8_test_55 : decode cX8_test 55 = .ok (.istore 7, 2) := by decide +kernel
theorem dX8_test_57 : decode cX8_test 57 = .ok (.iload 7, 2) := by decide +kernel
theorem dX8_test_59 : decode cX8_test 59 = .ok (.bipush 6, 2) := by decide +kernel
theorem dX8_test_61 : decode cX8_test 61 = .ok (.if_icmp .ge 89, 3) := by decide +kernel
theorem dX8_test_64 : decode cX8_test 64 = .ok (.iconst 0, 1) := by decide +kernel
theorem dX8_test_65 : decode cX8_test 65 = .ok (.istore 8, 2) := by decide +kernel
theorem dX8_test_67 : decode cX8_test 67 = .ok (.iconst 0, 1) := by decide +kernel
theorem dX8_test_68 : decode cX8_test 68 = .ok (.istore 9, 2) := by decide +kernel
theorem dX8_test_70 : decode cX8_test 70 = .ok (.iload 9, 2) := by decide +kernel
theorem dX8_test_72 : decode cX8_test 72 = .ok (.bipush 6, 2) := by decide +kernel
theorem dX8_test_74 : decode cX8_test 74 = .ok (.if_icmp .ge 54, 3) := by decide +kernel
theorem dX8_test_77 : decode cX8_test 77 = .ok (.iload 8, 2) := by decide +kernel
theorem dX8_test_79 : decode cX8_test 79 = .ok (.iload_n 2, 1) := by decide +kernel
theorem dX8_test_80 : decode cX8_test 80 = .ok (.iload 7, 2) := by decide +kernel
theorem dX8_test_82 : decode cX8_test 82 = .ok (.invokestatic 187, 3) := by decide +kernel
theorem dX8_test_85 : decode cX8_test 85 = .ok (.ifCond .eq 33, 3) := by decide +kernel
theorem dX8_test_88 : decode cX8_test 88 = .ok (.iload_n 2, 1) := by decide +kernel
theorem dX8_test_89 : decode cX8_test 89 = .ok (.iload 9, 2) := by decide +kernel
theorem dX8_test_91 : decode cX8_test 91 = .ok (.invokestatic 187, 3) := by decide +kernel
theorem dX8_test_94 : decode cX8_test 94 = .ok (.ifCond .eq 24, 3) := by decide +kernel
theorem dX8_test_97 : decode cX8_test 97 = .ok (.iload 7, 2) := by decide +kernel
theorem dX8_test_99 : decode cX8_test 99 = .ok (.iload 5, 2) := by decide +kernel
theorem dX8_test_101 : decode cX8_test 101 = .ok (.invokestatic 140, 3) := by decide +kernel
theorem dX8_test_104 : decode cX8_test 104 = .ok (.iload 9, 2) := by decide +kernel
theorem dX8_test_106 : decode cX8_test 106 = .ok (.iload 5, 2) := by decide +kernel
theorem dX8_test_108 : decode cX8_test 108 = .ok (.invokestatic 140, 3) := by decide +kernel
theorem dX8_test_111 : decode cX8_test 111 = .ok (.if_icmp .ne 7, 3) := by decide +kernel
theorem dX8_test_114 : decode cX8_test 114 = .ok (.iconst 1, 1) := by decide +kernel
theorem dX8_test_115 : decode cX8_test 115 = .ok (.goto 4, 3) := by decide +kernel
theorem dX8_test_118 : decode cX8_test 118 = .ok (.iconst 0, 1) := by decide +kernel
theorem dX8_test_119 : decode cX8_test 119 = .ok (.iadd, 1) := by decide +kernel
theorem dX8_test_120 : decode cX8_test 120 = .ok (.istore 8, 2) := by decide +kernel
theorem dX8_test_122 : decode cX8_test 122 = .ok (.iinc 9 1, 3) := by decide +kernel
theorem dX8_test_125 : decode cX8_test 125 = .ok (.goto (-55), 3) := by decide +kernel
theorem dX8_test_128 : decode cX8_test 128 = .ok (.iload 8, 2) := by decide +kernel
theorem dX8_test_130 : decode cX8_test 130 = .ok (.iload 6, 2) := by decide +kernel
theorem dX8_test_132 : decode cX8_test 132 = .ok (.if_icmp .le 8, 3) := by decide +kernel
theorem dX8_test_135 : decode cX8_test 135 = .ok (.iload 8, 2) := by decide +kernel
theorem dX8_test_137 : decode cX8_test 137 = .ok (.goto 5, 3) := by decide +kernel
theorem dX8_test_140 : decode cX8_test 140 = .ok (.iload 6, 2) := by decide +kernel
theorem dX8_test_142 : decode cX8_test 142 = .ok (.istore 6, 2) := by decide +kernel
theorem dX8_test_144 : decode cX8_test 144 = .ok (.iinc 7 1, 3) := by decide +kernel
theorem dX8_test_147 : decode cX8_test 147 = .ok (.goto (-90), 3) := by decide +kernel
theorem dX8_test_150 : decode cX8_test 150 = .ok (.iload_n 3, 1) := by decide +kernel
theorem dX8_test_151 : decode cX8_test 151 = .ok (.bipush (-9), 2) := by decide +kernel
theorem dX8_test_153 : decode cX8_test 153 = .ok (.if_icmp .eq 10, 3) := by decide +kernel
theorem dX8_test_156 : decode cX8_test 156 = .ok (.iload 6, 2) := by decide +kernel
theorem dX8_test_158 : decode cX8_test 158 = .ok (.iload 4, 2) := by decide +kernel
theorem dX8_test_160 : decode cX8_test 160 = .ok (.if_icmp .ge 7, 3) := by decide +kernel
theorem dX8_test_163 : decode cX8_test 163 = .ok (.iconst 1, 1) := by decide +kernel
theorem dX8_test_164 : decode cX8_test 164 = .ok (.goto 4, 3) := by decide +kernel
theorem dX8_test_167 : decode cX8_test 167 = .ok (.iconst 0, 1) := by decide +kernel
theorem dX8_test_168 : decode cX8_test 168 = .ok (.istore 7, 2) := by decide +kernel
theorem dX8_test_170 : decode cX8_test 170 = .ok (.iload 7, 2) := by decide +kernel
theorem dX8_test_172 : decode cX8_test 172 = .ok (.ifCond .eq 8, 3) := by decide +kernel
theorem dX8_test_175 : decode cX8_test 175 = .ok (.iload 5, 2) := by decide +kernel
theorem dX8_test_177 : decode cX8_test 177 = .ok (.goto 4, 3) := by decide +kernel
theorem dX8_test_180 : decode cX8_test 180 = .ok (.iload_n 3, 1) := by decide +kernel
theorem dX8_test_181 : decode cX8_test 181 = .ok (.istore_n 3, 1) := by decide +kernel
theorem dX8_test_182 : decode cX8_test 182 = .ok (.iload 7, 2) := by decide +kernel
theorem dX8_test_184 : decode cX8_test 184 = .ok (.ifCond .eq 8, 3) := by decide +kernel
theorem dX8_test_187 : decode cX8_test 187 = .ok (.iload 6, 2) := by decide +kernel
theorem dX8_test_189 : decode cX8_test 189 = .ok (.goto 5, 3) := by decide +kernel
theorem dX8_test_192 : decode cX8_test 192 = .ok (.iload 4, 2) := by decide +kernel
theorem dX8_test_194 : decode cX8_test 194 = .ok (.istore 4, 2) := by decide +kernel
theorem dX8_test_196 : decode cX8_test 196 = .ok (.iinc 5 1, 3) := by decide +kernel
theorem dX8_test_199 : decode cX8_test 199 = .ok (.goto (-155), 3) := by decide +kernel
theorem dX8_test_202 : decode cX8_test 202 = .ok (.aload_n 0, 1) := by decide +kernel
theorem dX8_test_203 : decode cX8_test 203 = .ok (.iload 4, 2) := by decide +kernel
theorem dX8_test_205 : decode cX8_test 205 = .ok (.invokevirtual 81, 3) := by decide +kernel
theorem dX8_test_208 : decode cX8_test 208 = .ok (.pop, 1) := by decide +kernel
theorem dX8_test_209 : decode cX8_test 209 = .ok (.iload_n 3, 1) := by decide +kernel
theorem dX8_test_210 : decode cX8_test 210 = .ok (.ireturn, 1) := by decide +kernel
theorem dX8_leaks_0 : decode cX8_leaks 0 = .ok (.iload_n 1, 1) := by decide +kernel
theorem dX8_leaks_1 : decode cX8_leaks 1 = .ok (.iconst 0, 1) := by decide +kernel
theorem dX8_leaks_2 : decode cX8_leaks 2 = .ok (.iconst 5, 1) := by decide +kernel
theorem dX8_leaks_3 : decode cX8_leaks 3 = .ok (.invokestatic 66, 3) := by decide +kernel
theorem dX8_leaks_6 : decode cX8_leaks 6 = .ok (.ifCond .ne 5, 3) := by decide +kernel
theorem dX8_leaks_9 : decode cX8_leaks 9 = .ok (.iconst (-1), 1) := by decide +kernel
theorem dX8_leaks_10 : decode cX8_leaks 10 = .ok (.ireturn, 1) := by decide +kernel
theorem dX8_leaks_11 : decode cX8_leaks 11 = .ok (.aload_n 0, 1) := by decide +kernel
theorem dX8_leaks_12 : decode cX8_leaks 12 = .ok (.getfield 7, 3) := by decide +kernel
theorem dX8_leaks_15 : decode cX8_leaks 15 = .ok (.iload_n 1, 1) := by decide +kernel
theorem dX8_leaks_16 : decode cX8_leaks 16 = .ok (.iaload, 1) := by decide +kernel
theorem dX8_leaks_17 : decode cX8_leaks 17 = .ok (.ifCond .ge 9, 3) := by decide +kernel
theorem dX8_leaks_20 : decode cX8_leaks 20 = .ok (.aload_n 0, 1) := by decide +kernel
theorem dX8_leaks_21 : decode cX8_leaks 21 = .ok (.iconst 1, 1) := by decide +kernel
theorem dX8_leaks_22 : decode cX8_leaks 22 = .ok (.invokevirtual 73, 3) := by decide +kernel
theorem dX8_leaks_25 : decode cX8_leaks 25 = .ok (.ireturn, 1) := by decide +kernel
theorem dX8_leaks_26 : decode cX8_leaks 26 = .ok (.aload_n 0, 1) := by decide +kernel
theorem dX8_leaks_27 : decode cX8_leaks 27 = .ok (.getfield 7, 3) := by decide +kernel
theorem dX8_leaks_30 : decode cX8_leaks 30 = .ok (.iload_n 1, 1) := by decide +kernel
theorem dX8_leaks_31 : decode cX8_leaks 31 = .ok (.iaload, 1) := by decide +kernel
theorem dX8_leaks_32 : decode cX8_leaks 32 = .ok (.ifCond .ne 9, 3) := by decide +kernel
theorem dX8_leaks_35 : decode cX8_leaks 35 = .ok (.aload_n 0, 1) := by decide +kernel
theorem dX8_leaks_36 : decode cX8_leaks 36 = .ok (.iconst 5, 1) := by decide +kernel
theorem dX8_leaks_37 : decode cX8_leaks 37 = .ok (.invokevirtual 73, 3) := by decide +kernel
theorem dX8_leaks_40 : decode cX8_leaks 40 = .ok (.ireturn, 1) := by decide +kernel
theorem dX8_leaks_41 : decode cX8_leaks 41 = .ok (.iconst 1, 1) := by decide +kernel
theorem dX8_leaks_42 : decode cX8_leaks 42 = .ok (.istore_n 2, 1) := by decide +kernel
theorem dX8_leaks_43 : decode cX8_leaks 43 = .ok (.iconst 0, 1) := by decide +kernel
theorem dX8_leaks_44 : decode cX8_leaks 44 = .ok (.istore_n 3, 1) := by decide +kernel
theorem dX8_leaks_45 : decode cX8_leaks 45 = .ok (.iload_n 3, 1) := by decide +kernel
theorem dX8_leaks_46 : decode cX8_leaks 46 = .ok (.aload_n 0, 1) := by decide +kernel
theorem dX8_leaks_47 : decode cX8_leaks 47 = .ok (.getfield 7, 3) := by decide +kernel
theorem dX8_leaks_50 : decode cX8_leaks 50 = .ok (.iload_n 1, 1) := by decide +kernel
theorem dX8_leaks_51 : decode cX8_leaks 51 = .ok (.iaload, 1) := by decide +kernel
theorem dX8_leaks_52 : decode cX8_leaks 52 = .ok (.if_icmp .ge 40, 3) := by decide +kernel
theorem dX8_leaks_55 : decode cX8_leaks 55 = .ok (.iload_n 2, 1) := by decide +kernel
theorem dX8_leaks_56 : decode cX8_leaks 56 = .ok (.ifCond .eq 28, 3) := by decide +kernel
theorem dX8_leaks_59 : decode cX8_leaks 59 = .ok (.aload_n 0, 1) := by decide +kernel
theorem dX8_leaks_60 : decode cX8_leaks 60 = .ok (.getfield 13, 3) := by decide +kernel
theorem dX8_leaks_63 : decode cX8_leaks 63 = .ok (.bipush 40, 2) := by decide +kernel
theorem dX8_leaks_65 : decode cX8_leaks 65 = .ok (.iload_n 1, 1) := by decide +kernel
theorem dX8_leaks_66 : decode cX8_leaks 66 = .ok (.imul, 1) := by decide +kernel
theorem dX8_leaks_67 : decode cX8_leaks 67 = .ok (.iload_n 3, 1) := by decide +kernel
theorem dX8_leaks_68 : decode cX8_leaks 68 = .ok (.iadd, 1) := by decide +kernel
theorem dX8_leaks_69 : decode cX8_leaks 69 = .ok (.iaload, 1) := by decide +kernel
theorem dX8_leaks_70 : decode cX8_leaks 70 = .ok (.iconst 0, 1) := by decide +kernel
theorem dX8_leaks_71 : decode cX8_leaks 71 = .ok (.sipush 999, 3) := by decide +kernel
theorem dX8_leaks_74 : decode cX8_leaks 74 = .ok (.invokestatic 66, 3) := by decide +kernel
theorem dX8_leaks_77 : decode cX8_leaks 77 = .ok (.ifCond .eq 7, 3) := by decide +kernel
theorem dX8_leaks_80 : decode cX8_leaks 80 = .ok (.iconst 1, 1) := by decide +kernel
theorem dX8_leaks_81 : decode cX8_leaks 81 = .ok (.goto 4, 3) := by decide +kernel
theorem dX8_leaks_84 : decode cX8_leaks 84 = .ok (.iconst 0, 1) := by decide +kernel
theorem dX8_leaks_85 : decode cX8_leaks 85 = .ok (.istore_n 2, 1) := by decide +kernel
theorem dX8_leaks_86 : decode cX8_leaks 86 = .ok (.iinc 3 1, 3) := by decide +kernel
theorem dX8_leaks_89 : decode cX8_leaks 89 = .ok (.goto (-44), 3) := by decide +kernel
theorem dX8_leaks_92 : decode cX8_leaks 92 = .ok (.iload_n 2, 1) := by decide +kernel
theorem dX8_leaks_93 : decode cX8_leaks 93 = .ok (.ifCond .ne 9, 3) := by decide +kernel
theorem dX8_leaks_96 : decode cX8_leaks 96 = .ok (.aload_n 0, 1) := by decide +kernel
theorem dX8_leaks_97 : decode cX8_leaks 97 = .ok (.iconst 3, 1) := by decide +kernel
theorem dX8_leaks_98 : decode cX8_leaks 98 = .ok (.invokevirtual 73, 3) := by decide +kernel
theorem dX8_leaks_101 : decode cX8_leaks 101 = .ok (.ireturn, 1) := by decide +kernel
theorem dX8_leaks_102 : decode cX8_leaks 102 = .ok (.iconst 0, 1) := by decide +kernel
theorem dX8_leaks_103 : decode cX8_leaks 103 = .ok (.istore_n 3, 1) := by decide +kernel
theorem dX8_leaks_104 : decode cX8_leaks 104 = .ok (.iconst 0, 1) := by decide +kernel
theorem dX8_leaks_105 : decode cX8_leaks 105 = .ok (.istore 4, 2) := by decide +kernel
theorem dX8_leaks_107 : decode cX8_leaks 107 = .ok (.iload 4, 2) := by decide +kernel
theorem dX8_leaks_109 : decode cX8_leaks 109 = .ok (.bipush 10, 2) := by decide +kernel
theorem dX8_leaks_111 : decode cX8_leaks 111 = .ok (.if_icmp .ge 105, 3) := by decide +kernel
theorem dX8_leaks_114 : decode cX8_leaks 114 = .ok (.iconst 1, 1) := by decide +kernel
theorem dX8_leaks_115 : decode cX8_leaks 115 = .ok (.istore 5, 2) := by decide +kernel
theorem dX8_leaks_117 : decode cX8_leaks 117 = .ok (.iconst 1, 1) := by decide +kernel
theorem dX8_leaks_118 : decode cX8_leaks 118 = .ok (.istore 6, 2) := by decide +kernel
theorem dX8_leaks_120 : decode cX8_leaks 120 = .ok (.iload 6, 2) := by decide +kernel
theorem dX8_leaks_122 : decode cX8_leaks 122 = .ok (.aload_n 0, 1) := by decide +kernel
theorem dX8_leaks_123 : decode cX8_leaks 123 = .ok (.getfield 7, 3) := by decide +kernel
theorem dX8_leaks_126 : decode cX8_leaks 126 = .ok (.iload_n 1, 1) := by decide +kernel
theorem dX8_leaks_127 : decode cX8_leaks 127 = .ok (.iaload, 1) := by decide +kernel
theorem dX8_leaks_128 : decode cX8_leaks 128 = .ok (.if_icmp .ge 66, 3) := by decide +kernel
theorem dX8_leaks_131 : decode cX8_leaks 131 = .ok (.aload_n 0, 1) := by decide +kernel
theorem dX8_leaks_132 : decode cX8_leaks 132 = .ok (.getfield 13, 3) := by decide +kernel
theorem dX8_leaks_135 : decode cX8_leaks 135 = .ok (.bipush 40, 2) := by decide +kernel
theorem dX8_leaks_137 : decode cX8_leaks 137 = .ok (.iload_n 1, 1) := by decide +kernel
theorem dX8_leaks_138 : decode cX8_leaks 138 = .ok (.imul, 1) := by decide +kernel
theorem dX8_leaks_139 : decode cX8_leaks 139 = .ok (.iload 6, 2) := by decide +kernel
theorem dX8_leaks_141 : decode cX8_leaks 141 = .ok (.iadd, 1) := by decide +kernel
theorem dX8_leaks_142 : decode cX8_leaks 142 = .ok (.iconst 1, 1) := by decide +kernel
theorem dX8_leaks_143 : decode cX8_leaks 143 = .ok (.isub, 1) := by decide +kernel
theorem dX8_leaks_144 : decode cX8_leaks 144 = .ok (.iaload, 1) := by decide +kernel
theorem dX8_leaks_145 : decode cX8_leaks 145 = .ok (.iload 4, 2) := by decide +kernel
theorem dX8_leaks_147 : decode cX8_leaks 147 = .ok (.isub, 1) := by decide +kernel
theorem dX8_leaks_148 : decode cX8_leaks 148 = .ok (.istore 7, 2) := by decide +kernel
theorem dX8_leaks_150 : decode cX8_leaks 150 = .ok (.iload 5, 2) := by decide +kernel
theorem dX8_leaks_152 : decode cX8_leaks 152 = .ok (.ifCond .eq 33, 3) := by decide +kernel
theorem dX8_leaks_155 : decode cX8_leaks 155 = .ok (.aload_n 0, 1) := by decide +kernel
theorem dX8_leaks_156 : decode cX8_leaks 156 = .ok (.getfield 13, 3) := by decide +kernel
theorem dX8_leaks_159 : decode cX8_leaks 159 = .ok (.bipush 40, 2) := by decide +kernel
theorem dX8_leaks_161 : decode cX8_leaks 161 = .ok (.iload_n 1, 1) := by decide +kernel
theorem dX8_leaks_162 : decode cX8_leaks 162 = .ok (.imul, 1) := by decide +kernel
theorem dX8_leaks_163 : decode cX8_leaks 163 = .ok (.iload 6, 2) := by decide +kernel
theorem dX8_leaks_165 : decode cX8_leaks 165 = .ok (.iadd, 1) := by decide +kernel
theorem dX8_leaks_166 : decode cX8_leaks 166 = .ok (.iaload, 1) := by decide +kernel
theorem dX8_leaks_167 : decode cX8_leaks 167 = .ok (.iload 7, 2) := by decide +kernel
theorem dX8_leaks_169 : decode cX8_leaks 169 = .ok (.ifCond .ge 7, 3) := by decide +kernel
theorem dX8_leaks_172 : decode cX8_leaks 172 = .ok (.iconst 0, 1) := by decide +kernel
theorem dX8_leaks_173 : decode cX8_leaks 173 = .ok (.goto 5, 3) := by decide +kernel
theorem dX8_leaks_176 : decode cX8_leaks 176 = .ok (.iload 7, 2) := by decide +kernel
theorem dX8_leaks_178 : decode cX8_leaks 178 = .ok (.if_icmp .ne 7, 3) := by decide +kernel
theorem dX8_leaks_181 : decode cX8_leaks 181 = .ok (.iconst 1, 1) := by decide +kernel
theorem dX8_leaks_182 : decode cX8_leaks 182 = .ok (.goto 4, 3) := by decide +kernel
theorem dX8_leaks_185 : decode cX8_leaks 185 = .ok (.iconst 0, 1) := by decide +kernel
theorem dX8_leaks_186 : decode cX8_leaks 186 = .ok (.istore 5, 2) := by decide +kernel
theorem dX8_leaks_188 : decode cX8_leaks 188 = .ok (.iinc 6 1, 3) := by decide +kernel
theorem dX8_leaks_191 : decode cX8_leaks 191 = .ok (.goto (-71), 3) := by decide +kernel
theorem dX8_leaks_194 : decode cX8_leaks 194 = .ok (.iload_n 3, 1) := by decide +kernel
theorem dX8_leaks_195 : decode cX8_leaks 195 = .ok (.iload 5, 2) := by decide +kernel
theorem dX8_leaks_197 : decode cX8_leaks 197 = .ok (.ifCond .eq 10, 3) := by decide +kernel
theorem dX8_leaks_200 : decode cX8_leaks 200 = .ok (.iconst 1, 1) := by decide +kernel
theorem dX8_leaks_201 : decode cX8_leaks 201 = .ok (.iload 4, 2) := by decide +kernel
theorem dX8_leaks_203 : decode cX8_leaks 203 = .ok (.ishl, 1) := by decide +kernel
theorem dX8_leaks_204 : decode cX8_leaks 204 = .ok (.goto 4, 3) := by decide +kernel
theorem dX8_leaks_207 : decode cX8_leaks 207 = .ok (.iconst 0, 1) := by decide +kernel
theorem dX8_leaks_208 : decode cX8_leaks 208 = .ok (.ior, 1) := by decide +kernel
theorem dX8_leaks_209 : decode cX8_leaks 209 = .ok (.istore_n 3, 1) := by decide +kernel
theorem dX8_leaks_210 : decode cX8_leaks 210 = .ok (.iinc 4 1, 3) := by decide +kernel
theorem dX8_leaks_213 : decode cX8_leaks 213 = .ok (.goto (-106), 3) := by decide +kernel
theorem dX8_leaks_216 : decode cX8_leaks 216 = .ok (.iload_n 3, 1) := by decide +kernel
theorem dX8_leaks_217 : decode cX8_leaks 217 = .ok (.ireturn, 1) := by decide +kernel
theorem dX8_eveningBy_0 : decode cX8_eveningBy 0 = .ok (.aload_n 0, 1) := by decide +kernel
theorem dX8_eveningBy_1 : decode cX8_eveningBy 1 = .ok (.invokevirtual 184, 3) := by decide +kernel
theorem dX8_eveningBy_4 : decode cX8_eveningBy 4 = .ok (.iload_n 1, 1) := by decide +kernel
theorem dX8_eveningBy_5 : decode cX8_eveningBy 5 = .ok (.istore 4, 2) := by decide +kernel
theorem dX8_eveningBy_7 : decode cX8_eveningBy 7 = .ok (.iconst 0, 1) := by decide +kernel
theorem dX8_eveningBy_8 : decode cX8_eveningBy 8 = .ok (.istore 5, 2) := by decide +kernel
theorem dX8_eveningBy_10 : decode cX8_eveningBy 10 = .ok (.iload 5, 2) := by decide +kernel
theorem dX8_eveningBy_12 : decode cX8_eveningBy 12 = .ok (.iload_n 3, 1) := by decide +kernel
theorem dX8_eveningBy_13 : decode cX8_eveningBy 13 = .ok (.if_icmp .ge 70, 3) := by decide +kernel
theorem dX8_eveningBy_16 : decode cX8_eveningBy 16 = .ok (.iload 4, 2) := by decide +kernel
theorem dX8_eveningBy_18 : decode cX8_eveningBy 18 = .ok (.bipush 7, 2) := by decide +kernel
theorem dX8_eveningBy_20 : decode cX8_eveningBy 20 = .ok (.irem, 1) := by decide +kernel
theorem dX8_eveningBy_21 : decode cX8_eveningBy 21 = .ok (.istore 6, 2) := by decide +kernel
theorem dX8_eveningBy_23 : decode cX8_eveningBy 23 = .ok (.iload 4, 2) := by decide +kernel
theorem dX8_eveningBy_25 : decode cX8_eveningBy 25 = .ok (.bipush 7, 2) := by decide +kernel
theorem dX8_eveningBy_27 : decode cX8_eveningBy 27 = .ok (.idiv, 1) := by decide +kernel
theorem dX8_eveningBy_28 : decode cX8_eveningBy 28 = .ok (.bipush 9, 2) := by decide +kernel
theorem dX8_eveningBy_30 : decode cX8_eveningBy 30 = .ok (.irem, 1) := by decide +kernel
theorem dX8_eveningBy_31 : decode cX8_eveningBy 31 = .ok (.istore 7, 2) := by decide +kernel
theorem dX8_eveningBy_33 : decode cX8_eveningBy 33 = .ok (.iload 4, 2) := by decide +kernel
theorem dX8_eveningBy_35 : decode cX8_eveningBy 35 = .ok (.bipush 63, 2) := by decide +kernel
theorem dX8_eveningBy_37 : decode cX8_eveningBy 37 = .ok (.idiv, 1) := by decide +kernel
theorem dX8_eveningBy_38 : decode cX8_eveningBy 38 = .ok (.istore 4, 2) := by decide +kernel
theorem dX8_eveningBy_40 : decode cX8_eveningBy 40 = .ok (.iload 6, 2) := by decide +kernel
theorem dX8_eveningBy_42 : decode cX8_eveningBy 42 = .ok (.aload_n 0, 1) := by decide +kernel
theorem dX8_eveningBy_43 : decode cX8_eveningBy 43 = .ok (.getfield 63, 3) := by decide +kernel
theorem dX8_eveningBy_46 : decode cX8_eveningBy 46 = .ok (.if_icmp .ge 14, 3) := by decide +kernel
theorem dX8_eveningBy_49 : decode cX8_eveningBy 49 = .ok (.aload_n 0, 1) := by decide +kernel
theorem dX8_eveningBy_50 : decode cX8_eveningBy 50 = .ok (.aload_n 0, 1) := by decide +kernel
theorem dX8_eveningBy_51 : decode cX8_eveningBy 51 = .ok (.getfield 41, 3) := by decide +kernel
theorem dX8_eveningBy_54 : decode cX8_eveningBy 54 = .ok (.iload 6, 2) := by decide +kernel
theorem dX8_eveningBy_56 : decode cX8_eveningBy 56 = .ok (.iload_n 2, 1) := by decide +kernel
theorem dX8_eveningBy_57 : decode cX8_eveningBy 57 = .ok (.invokevirtual 174, 3) := by decide +kernel
theorem dX8_eveningBy_60 : decode cX8_eveningBy 60 = .ok (.iload 7, 2) := by decide +kernel
theorem dX8_eveningBy_62 : decode cX8_eveningBy 62 = .ok (.aload_n 0, 1) := by decide +kernel
theorem dX8_eveningBy_63 : decode cX8_eveningBy 63 = .ok (.getfield 70, 3) := by decide +kernel
theorem dX8_eveningBy_66 : decode cX8_eveningBy 66 = .ok (.if_icmp .ge 11, 3) := by decide +kernel
theorem dX8_eveningBy_69 : decode cX8_eveningBy 69 = .ok (.aload_n 0, 1) := by decide +kernel
theorem dX8_eveningBy_70 : decode cX8_eveningBy 70 = .ok (.getfield 41, 3) := by decide +kernel
theorem dX8_eveningBy_73 : decode cX8_eveningBy 73 = .ok (.iload 7, 2) := by decide +kernel
theorem dX8_eveningBy_75 : decode cX8_eveningBy 75 = .ok (.iconst 0, 1) := by decide +kernel
theorem dX8_eveningBy_76 : decode cX8_eveningBy 76 = .ok (.iastore, 1) := by decide +kernel
theorem dX8_eveningBy_77 : decode cX8_eveningBy 77 = .ok (.iinc 5 1, 3) := by decide +kernel
theorem dX8_eveningBy_80 : decode cX8_eveningBy 80 = .ok (.goto (-70), 3) := by decide +kernel
theorem dX8_eveningBy_83 : decode cX8_eveningBy 83 = .ok (.aload_n 0, 1) := by decide +kernel
theorem dX8_eveningBy_84 : decode cX8_eveningBy 84 = .ok (.aload_n 0, 1) := by decide +kernel
theorem dX8_eveningBy_85 : decode cX8_eveningBy 85 = .ok (.getfield 41, 3) := by decide +kernel
theorem dX8_eveningBy_88 : decode cX8_eveningBy 88 = .ok (.invokevirtual 167, 3) := by decide +kernel
theorem dX8_eveningBy_91 : decode cX8_eveningBy 91 = .ok (.ireturn, 1) := by decide +kernel
theorem dX8_isTurn_0 : decode cX8_isTurn 0 = .ok (.iload_n 1, 1) := by decide +kernel
theorem dX8_isTurn_1 : decode cX8_isTurn 1 = .ok (.bipush 7, 2) := by decide +kernel
theorem dX8_isTurn_3 : decode cX8_isTurn 3 = .ok (.irem, 1) := by decide +kernel
theorem dX8_isTurn_4 : decode cX8_isTurn 4 = .ok (.istore_n 2, 1) := by decide +kernel
theorem dX8_isTurn_5 : decode cX8_isTurn 5 = .ok (.iload_n 1, 1) := by decide +kernel
theorem dX8_isTurn_6 : decode cX8_isTurn 6 = .ok (.bipush 7, 2) := by decide +kernel
theorem dX8_isTurn_8 : decode cX8_isTurn 8 = .ok (.idiv, 1) := by decide +kernel
theorem dX8_isTurn_9 : decode cX8_isTurn 9 = .ok (.istore_n 3, 1) := by decide +kernel
theorem dX8_isTurn_10 : decode cX8_isTurn 10 = .ok (.iload_n 2, 1) := by decide +kernel
theorem dX8_isTurn_11 : decode cX8_isTurn 11 = .ok (.aload_n 0, 1) := by decide +kernel
theorem dX8_isTurn_12 : decode cX8_isTurn 12 = .ok (.getfield 63, 3) := by decide +kernel
theorem dX8_isTurn_15 : decode cX8_isTurn 15 = .ok (.if_icmp .lt 9, 3) := by decide +kernel
theorem dX8_isTurn_18 : decode cX8_isTurn 18 = .ok (.iload_n 2, 1) := by decide +kernel
theorem dX8_isTurn_19 : decode cX8_isTurn 19 = .ok (.bipush 6, 2) := by decide +kernel
theorem dX8_isTurn_21 : decode cX8_isTurn 21 = .ok (.if_icmp .ne 21, 3) := by decide +kernel
theorem dX8_isTurn_24 : decode cX8_isTurn 24 = .ok (.iload_n 3, 1) := by decide +kernel
theorem dX8_isTurn_25 : decode cX8_isTurn 25 = .ok (.aload_n 0, 1) := by decide +kernel
theorem dX8_isTurn_26 : decode cX8_isTurn 26 = .ok (.getfield 70, 3) := by decide +kernel
theorem dX8_isTurn_29 : decode cX8_isTurn 29 = .ok (.if_icmp .lt 9, 3) := by decide +kernel
theorem dX8_isTurn_32 : decode cX8_isTurn 32 = .ok (.iload_n 3, 1) := by decide +kernel
theorem dX8_isTurn_33 : decode cX8_isTurn 33 = .ok (.bipush 8, 2) := by decide +kernel
theorem dX8_isTurn_35 : decode cX8_isTurn 35 = .ok (.if_icmp .ne 7, 3) := by decide +kernel
theorem dX8_isTurn_38 : decode cX8_isTurn 38 = .ok (.iconst 1, 1) := by decide +kernel
theorem dX8_isTurn_39 : decode cX8_isTurn 39 = .ok (.goto 4, 3) := by decide +kernel
theorem dX8_isTurn_42 : decode cX8_isTurn 42 = .ok (.iconst 0, 1) := by decide +kernel
theorem dX8_isTurn_43 : decode cX8_isTurn 43 = .ok (.ireturn, 1) := by decide +kernel
theorem dX8_lastTurn_0 : decode cX8_lastTurn 0 = .ok (.iconst (-1), 1) := by decide +kernel
theorem dX8_lastTurn_1 : decode cX8_lastTurn 1 = .ok (.istore_n 3, 1) := by decide +kernel
theorem dX8_lastTurn_2 : decode cX8_lastTurn 2 = .ok (.iconst 0, 1) := by decide +kernel
theorem dX8_lastTurn_3 : decode cX8_lastTurn 3 = .ok (.istore 4, 2) := by decide +kernel
theorem dX8_lastTurn_5 : decode cX8_lastTurn 5 = .ok (.iload 4, 2) := by decide +kernel
theorem dX8_lastTurn_7 : decode cX8_lastTurn 7 = .ok (.bipush 7, 2) := by decide +kernel
theorem dX8_lastTurn_9 : decode cX8_lastTurn 9 = .ok (.if_icmp .ge 136, 3) := by decide +kernel
theorem dX8_lastTurn_12 : decode cX8_lastTurn 12 = .ok (.sipush 9999, 3) := by decide +kernel
theorem dX8_lastTurn_15 : decode cX8_lastTurn 15 = .ok (.istore 5, 2) := by decide +kernel
theorem dX8_lastTurn_17 : decode cX8_lastTurn 17 = .ok (.iconst 0, 1) := by decide +kernel
theorem dX8_lastTurn_18 : decode cX8_lastTurn 18 = .ok (.istore 6, 2) := by decide +kernel
theorem dX8_lastTurn_20 : decode cX8_lastTurn 20 = .ok (.iload 6, 2) := by decide +kernel
theorem dX8_lastTurn_22 : decode cX8_lastTurn 22 = .ok (.bipush 9, 2) := by decide +kernel
theorem dX8_lastTurn_24 : decode cX8_lastTurn 24 = .ok (.if_icmp .ge 94, 3) := by decide +kernel
theorem dX8_lastTurn_27 : decode cX8_lastTurn 27 = .ok (.aload_n 0, 1) := by decide +kernel
theorem dX8_lastTurn_28 : decode cX8_lastTurn 28 = .ok (.iload 4, 2) := by decide +kernel
theorem dX8_lastTurn_30 : decode cX8_lastTurn 30 = .ok (.bipush 7, 2) := by decide +kernel
theorem dX8_lastTurn_32 : decode cX8_lastTurn 32 = .ok (.iload 6, 2) := by decide +kernel
theorem dX8_lastTurn_34 : decode cX8_lastTurn 34 = .ok (.imul, 1) := by decide +kernel
theorem dX8_lastTurn_35 : decode cX8_lastTurn 35 = .ok (.iadd, 1) := by decide +kernel
theorem dX8_lastTurn_36 : decode cX8_lastTurn 36 = .ok (.invokevirtual 219, 3) := by decide +kernel
theorem dX8_lastTurn_39 : decode cX8_lastTurn 39 = .ok (.istore 7, 2) := by decide +kernel
theorem dX8_lastTurn_41 : decode cX8_lastTurn 41 = .ok (.iload 7, 2) := by decide +kernel
theorem dX8_lastTurn_43 : decode cX8_lastTurn 43 = .ok (.ifCond .eq 48, 3) := by decide +kernel
theorem dX8_lastTurn_46 : decode cX8_lastTurn 46 = .ok (.aload_n 0, 1) := by decide +kernel
theorem dX8_lastTurn_47 : decode cX8_lastTurn 47 = .ok (.iload_n 2, 1) := by decide +kernel
theorem dX8_lastTurn_48 : decode cX8_lastTurn 48 = .ok (.ifCond .ge 14, 3) := by decide +kernel
theorem dX8_lastTurn_51 : decode cX8_lastTurn 51 = .ok (.iload 4, 2) := by decide +kernel
theorem dX8_lastTurn_53 : decode cX8_lastTurn 53 = .ok (.bipush 7, 2) := by decide +kernel
theorem dX8_lastTurn_55 : decode cX8_lastTurn 55 = .ok (.iload 6, 2) := by decide +kernel
theorem dX8_lastTurn_57 : decode cX8_lastTurn 57 = .ok (.imul, 1) := by decide +kernel
theorem dX8_lastTurn_58 : decode cX8_lastTurn 58 = .ok (.iadd, 1) := by decide +kernel
theorem dX8_lastTurn_59 : decode cX8_lastTurn 59 = .ok (.goto 16, 3) := by decide +kernel
theorem dX8_lastTurn_62 : decode cX8_lastTurn 62 = .ok (.iload_n 2, 1) := by decide +kernel
theorem dX8_lastTurn_63 : decode cX8_lastTurn 63 = .ok (.bipush 63, 2) := by decide +kernel
theorem dX8_lastTurn_65 : decode cX8_lastTurn 65 = .ok (.iload 4, 2) := by decide +kernel
theorem dX8_lastTurn_67 : decode cX8_lastTurn 67 = .ok (.bipush 7, 2) := by decide +kernel
theorem dX8_lastTurn_69 : decode cX8_lastTurn 69 = .ok (.iload 6, 2) := by decide +kernel
theorem dX8_lastTurn_71 : decode cX8_lastTurn 71 = .ok (.imul, 1) := by decide +kernel
theorem dX8_lastTurn_72 : decode cX8_lastTurn 72 = .ok (.iadd, 1) := by decide +kernel
theorem dX8_lastTurn_73 : decode cX8_lastTurn 73 = .ok (.imul, 1) := by decide +kernel
theorem dX8_lastTurn_74 : decode cX8_lastTurn 74 = .ok (.iadd, 1) := by decide +kernel
theorem dX8_lastTurn_75 : decode cX8_lastTurn 75 = .ok (.iload_n 1, 1) := by decide +kernel
theorem dX8_lastTurn_76 : decode cX8_lastTurn 76 = .ok (.iload_n 2, 1) := by decide +kernel
theorem dX8_lastTurn_77 : decode cX8_lastTurn 77 = .ok (.ifCond .ge 7, 3) := by decide +kernel
theorem dX8_lastTurn_80 : decode cX8_lastTurn 80 = .ok (.iconst 1, 1) := by decide +kernel
theorem dX8_lastTurn_81 : decode cX8_lastTurn 81 = .ok (.goto 4, 3) := by decide +kernel
theorem dX8_lastTurn_84 : decode cX8_lastTurn 84 = .ok (.iconst 2, 1) := by decide +kernel
theorem dX8_lastTurn_85 : decode cX8_lastTurn 85 = .ok (.invokevirtual 222, 3) := by decide +kernel
theorem dX8_lastTurn_88 : decode cX8_lastTurn 88 = .ok (.goto 6, 3) := by decide +kernel
theorem dX8_lastTurn_91 : decode cX8_lastTurn 91 = .ok (.sipush 9999, 3) := by decide +kernel
theorem dX8_lastTurn_94 : decode cX8_lastTurn 94 = .ok (.istore 8, 2) := by decide +kernel
theorem dX8_lastTurn_96 : decode cX8_lastTurn 96 = .ok (.iload 8, 2) := by decide +kernel
theorem dX8_lastTurn_98 : decode cX8_lastTurn 98 = .ok (.iload 5, 2) := by decide +kernel
theorem dX8_lastTurn_100 : decode cX8_lastTurn 100 = .ok (.if_icmp .ge 8, 3) := by decide +kernel
theorem dX8_lastTurn_103 : decode cX8_lastTurn 103 = .ok (.iload 8, 2) := by decide +kernel
theorem dX8_lastTurn_105 : decode cX8_lastTurn 105 = .ok (.goto 5, 3) := by decide +kernel
theorem dX8_lastTurn_108 : decode cX8_lastTurn 108 = .ok (.iload 5, 2) := by decide +kernel
theorem dX8_lastTurn_110 : decode cX8_lastTurn 110 = .ok (.istore 5, 2) := by decide +kernel
theorem dX8_lastTurn_112 : decode cX8_lastTurn 112 = .ok (.iinc 6 1, 3) := by decide +kernel
theorem dX8_lastTurn_115 : decode cX8_lastTurn 115 = .ok (.goto (-95), 3) := by decide +kernel
theorem dX8_lastTurn_118 : decode cX8_lastTurn 118 = .ok (.iload 5, 2) := by decide +kernel
theorem dX8_lastTurn_120 : decode cX8_lastTurn 120 = .ok (.sipush 9999, 3) := by decide +kernel
theorem dX8_lastTurn_123 : decode cX8_lastTurn 123 = .ok (.if_icmp .ge 14, 3) := by decide +kernel
theorem dX8_lastTurn_126 : decode cX8_lastTurn 126 = .ok (.iload 5, 2) := by decide +kernel
theorem dX8_lastTurn_128 : decode cX8_lastTurn 128 = .ok (.iload_n 3, 1) := by decide +kernel
theorem dX8_lastTurn_129 : decode cX8_lastTurn 129 = .ok (.if_icmp .le 8, 3) := by decide +kernel
theorem dX8_lastTurn_132 : decode cX8_lastTurn 132 = .ok (.iload 5, 2) := by decide +kernel
theorem dX8_lastTurn_134 : decode cX8_lastTurn 134 = .ok (.goto 4, 3) := by decide +kernel
theorem dX8_lastTurn_137 : decode cX8_lastTurn 137 = .ok (.iload_n 3, 1) := by decide +kernel
theorem dX8_lastTurn_138 : decode cX8_lastTurn 138 = .ok (.istore_n 3, 1) := by decide +kernel
theorem dX8_lastTurn_139 : decode cX8_lastTurn 139 = .ok (.iinc 4 1, 3) := by decide +kernel
theorem dX8_lastTurn_142 : decode cX8_lastTurn 142 = .ok (.goto (-137), 3) := by decide +kernel
theorem dX8_lastTurn_145 : decode cX8_lastTurn 145 = .ok (.iload_n 3, 1) := by decide +kernel
theorem dX8_lastTurn_146 : decode cX8_lastTurn 146 = .ok (.ireturn, 1) := by decide +kernel
theorem dX8_evening_0 : decode cX8_evening 0 = .ok (.iload_n 1, 1) := by decide +kernel
theorem dX8_evening_1 : decode cX8_evening 1 = .ok (.iconst 0, 1) := by decide +kernel
theorem dX8_evening_2 : decode cX8_evening 2 = .ok (.bipush 99, 2) := by decide +kernel
theorem dX8_evening_4 : decode cX8_evening 4 = .ok (.invokestatic 66, 3) := by decide +kernel
theorem dX8_evening_7 : decode cX8_evening 7 = .ok (.ifCond .eq 12, 3) := by decide +kernel
theorem dX8_evening_10 : decode cX8_evening 10 = .ok (.iload_n 2, 1) := by decide +kernel
theorem dX8_evening_11 : decode cX8_evening 11 = .ok (.iconst 0, 1) := by decide +kernel
theorem dX8_evening_12 : decode cX8_evening 12 = .ok (.iconst 2, 1) := by decide +kernel
theorem dX8_evening_13 : decode cX8_evening 13 = .ok (.invokestatic 66, 3) := by decide +kernel
theorem dX8_evening_16 : decode cX8_evening 16 = .ok (.ifCond .ne 5, 3) := by decide +kernel
theorem dX8_evening_19 : decode cX8_evening 19 = .ok (.iconst (-1), 1) := by decide +kernel
theorem dX8_evening_20 : decode cX8_evening 20 = .ok (.ireturn, 1) := by decide +kernel
theorem dX8_evening_21 : decode cX8_evening 21 = .ok (.aload_n 0, 1) := by decide +kernel
theorem dX8_evening_22 : decode cX8_evening 22 = .ok (.getfield 63, 3) := by decide +kernel
theorem dX8_evening_25 : decode cX8_evening 25 = .ok (.ifCond .ne 6, 3) := by decide +kernel
theorem dX8_evening_28 : decode cX8_evening 28 = .ok (.bipush (-4), 2) := by decide +kernel
theorem dX8_evening_30 : decode cX8_evening 30 = .ok (.ireturn, 1) := by decide +kernel
theorem dX8_evening_31 : decode cX8_evening 31 = .ok (.iload_n 2, 1) := by decide +kernel
theorem dX8_evening_32 : decode cX8_evening 32 = .ok (.iconst 2, 1) := by decide +kernel
theorem dX8_evening_33 : decode cX8_evening 33 = .ok (.if_icmp .ge 25, 3) := by decide +kernel
theorem dX8_evening_36 : decode cX8_evening 36 = .ok (.iload_n 2, 1) := by decide +kernel
theorem dX8_evening_37 : decode cX8_evening 37 = .ok (.ifCond .ne 14, 3) := by decide +kernel
theorem dX8_evening_40 : decode cX8_evening 40 = .ok (.aload_n 0, 1) := by decide +kernel
theorem dX8_evening_41 : decode cX8_evening 41 = .ok (.aload_n 0, 1) := by decide +kernel
theorem dX8_evening_42 : decode cX8_evening 42 = .ok (.getfield 38, 3) := by decide +kernel
theorem dX8_evening_45 : decode cX8_evening 45 = .ok (.invokevirtual 167, 3) := by decide +kernel
theorem dX8_evening_48 : decode cX8_evening 48 = .ok (.goto 9, 3) := by decide +kernel
theorem dX8_evening_51 : decode cX8_evening 51 = .ok (.aload_n 0, 1) := by decide +kernel
theorem dX8_evening_52 : decode cX8_evening 52 = .ok (.iload_n 1, 1) := by decide +kernel
theorem dX8_evening_53 : decode cX8_evening 53 = .ok (.iconst (-1), 1) := by decide +kernel
theorem dX8_evening_54 : decode cX8_evening 54 = .ok (.invokevirtual 226, 3) := by decide +kernel
theorem dX8_evening_57 : decode cX8_evening 57 = .ok (.ireturn, 1) := by decide +kernel
theorem dX8_evening_58 : decode cX8_evening 58 = .ok (.iconst (-1), 1) := by decide +kernel
theorem dX8_evening_59 : decode cX8_evening 59 = .ok (.istore_n 3, 1) := by decide +kernel
theorem dX8_evening_60 : decode cX8_evening 60 = .ok (.iconst 0, 1) := by decide +kernel
theorem dX8_evening_61 : decode cX8_evening 61 = .ok (.istore 4, 2) := by decide +kernel
theorem dX8_evening_63 : decode cX8_evening 63 = .ok (.iload 4, 2) := by decide +kernel
theorem dX8_evening_65 : decode cX8_evening 65 = .ok (.bipush 7, 2) := by decide +kernel
theorem dX8_evening_67 : decode cX8_evening 67 = .ok (.if_icmp .ge 103, 3) := by decide +kernel
theorem dX8_evening_70 : decode cX8_evening 70 = .ok (.sipush 9999, 3) := by decide +kernel
theorem dX8_evening_73 : decode cX8_evening 73 = .ok (.istore 5, 2) := by decide +kernel
theorem dX8_evening_75 : decode cX8_evening 75 = .ok (.iconst 0, 1) := by decide +kernel
theorem dX8_evening_76 : decode cX8_evening 76 = .ok (.istore 6, 2) := by decide +kernel
theorem dX8_evening_78 : decode cX8_evening 78 = .ok (.iload 6, 2) := by decide +kernel
theorem dX8_evening_80 : decode cX8_evening 80 = .ok (.bipush 9, 2) := by decide +kernel
theorem dX8_evening_82 : decode cX8_evening 82 = .ok (.if_icmp .ge 61, 3) := by decide +kernel
theorem dX8_evening_85 : decode cX8_evening 85 = .ok (.aload_n 0, 1) := by decide +kernel
theorem dX8_evening_86 : decode cX8_evening 86 = .ok (.iload 4, 2) := by decide +kernel
theorem dX8_evening_88 : decode cX8_evening 88 = .ok (.bipush 7, 2) := by decide +kernel
theorem dX8_evening_90 : decode cX8_evening 90 = .ok (.iload 6, 2) := by decide +kernel
theorem dX8_evening_92 : decode cX8_evening 92 = .ok (.imul, 1) := by decide +kernel
theorem dX8_evening_93 : decode cX8_evening 93 = .ok (.iadd, 1) := by decide +kernel
theorem dX8_evening_94 : decode cX8_evening 94 = .ok (.invokevirtual 219, 3) := by decide +kernel
theorem dX8_evening_97 : decode cX8_evening 97 = .ok (.ifCond .eq 19, 3) := by decide +kernel
theorem dX8_evening_100 : decode cX8_evening 100 = .ok (.aload_n 0, 1) := by decide +kernel
theorem dX8_evening_101 : decode cX8_evening 101 = .ok (.iload_n 1, 1) := by decide +kernel
theorem dX8_evening_102 : decode cX8_evening 102 = .ok (.iload 4, 2) := by decide +kernel
theorem dX8_evening_104 : decode cX8_evening 104 = .ok (.bipush 7, 2) := by decide +kernel
theorem dX8_evening_106 : decode cX8_evening 106 = .ok (.iload 6, 2) := by decide +kernel
theorem dX8_evening_108 : decode cX8_evening 108 = .ok (.imul, 1) := by decide +kernel
theorem dX8_evening_109 : decode cX8_evening 109 = .ok (.iadd, 1) := by decide +kernel
theorem dX8_evening_110 : decode cX8_evening 110 = .ok (.invokevirtual 226, 3) := by decide +kernel
theorem dX8_evening_113 : decode cX8_evening 113 = .ok (.goto 6, 3) := by decide +kernel
theorem dX8_evening_116 : decode cX8_evening 116 = .ok (.sipush 9999, 3) := by decide +kernel
theorem dX8_evening_119 : decode cX8_evening 119 = .ok (.istore 7, 2) := by decide +kernel
theorem dX8_evening_121 : decode cX8_evening 121 = .ok (.iload 7, 2) := by decide +kernel
theorem dX8_evening_123 : decode cX8_evening 123 = .ok (.iload 5, 2) := by decide +kernel
theorem dX8_evening_125 : decode cX8_evening 125 = .ok (.if_icmp .ge 8, 3) := by decide +kernel
theorem dX8_evening_128 : decode cX8_evening 128 = .ok (.iload 7, 2) := by decide +kernel
theorem dX8_evening_130 : decode cX8_evening 130 = .ok (.goto 5, 3) := by decide +kernel
theorem dX8_evening_133 : decode cX8_evening 133 = .ok (.iload 5, 2) := by decide +kernel
theorem dX8_evening_135 : decode cX8_evening 135 = .ok (.istore 5, 2) := by decide +kernel
theorem dX8_evening_137 : decode cX8_evening 137 = .ok (.iinc 6 1, 3) := by decide +kernel
theorem dX8_evening_140 : decode cX8_evening 140 = .ok (.goto (-62), 3) := by decide +kernel
theorem dX8_evening_143 : decode cX8_evening 143 = .ok (.iload 5, 2) := by decide +kernel
theorem dX8_evening_145 : decode cX8_evening 145 = .ok (.sipush 9999, 3) := by decide +kernel
theorem dX8_evening_148 : decode cX8_evening 148 = .ok (.if_icmp .ge 14, 3) := by decide +kernel
theorem dX8_evening_151 : decode cX8_evening 151 = .ok (.iload 5, 2) := by decide +kernel
theorem dX8_evening_153 : decode cX8_evening 153 = .ok (.iload_n 3, 1) := by decide +kernel
theorem dX8_evening_154 : decode cX8_evening 154 = .ok (.if_icmp .le 8, 3) := by decide +kernel
theorem dX8_evening_157 : decode cX8_evening 157 = .ok (.iload 5, 2) := by decide +kernel
theorem dX8_evening_159 : decode cX8_evening 159 = .ok (.goto 4, 3) := by decide +kernel
theorem dX8_evening_162 : decode cX8_evening 162 = .ok (.iload_n 3, 1) := by decide +kernel
theorem dX8_evening_163 : decode cX8_evening 163 = .ok (.istore_n 3, 1) := by decide +kernel
theorem dX8_evening_164 : decode cX8_evening 164 = .ok (.iinc 4 1, 3) := by decide +kernel
theorem dX8_evening_167 : decode cX8_evening 167 = .ok (.goto (-104), 3) := by decide +kernel
theorem dX8_evening_170 : decode cX8_evening 170 = .ok (.iload_n 3, 1) := by decide +kernel
theorem dX8_evening_171 : decode cX8_evening 171 = .ok (.ireturn, 1) := by decide +kernel
theorem dX8_tellsPart_0 : decode cX8_tellsPart 0 = .ok (.lload_n 1, 1) := by decide +kernel
theorem dX8_tellsPart_1 : decode cX8_tellsPart 1 = .ok (.lstore 5, 2) := by decide +kernel
theorem dX8_tellsPart_3 : decode cX8_tellsPart 3 = .ok (.lload_n 3, 1) := by decide +kernel
theorem dX8_tellsPart_4 : decode cX8_tellsPart 4 = .ok (.lstore 7, 2) := by decide +kernel
theorem dX8_tellsPart_6 : decode cX8_tellsPart 6 = .ok (.lload 7, 2) := by decide +kernel
theorem dX8_tellsPart_8 : decode cX8_tellsPart 8 = .ok (.lconst 0, 1) := by decide +kernel
theorem dX8_tellsPart_9 : decode cX8_tellsPart 9 = .ok (.lcmp, 1) := by decide +kernel
theorem dX8_tellsPart_10 : decode cX8_tellsPart 10 = .ok (.ifCond .le 21, 3) := by decide +kernel
theorem dX8_tellsPart_13 : decode cX8_tellsPart 13 = .ok (.lload 5, 2) := by decide +kernel
theorem dX8_tellsPart_15 : decode cX8_tellsPart 15 = .ok (.lload 7, 2) := by decide +kernel
theorem dX8_tellsPart_17 : decode cX8_tellsPart 17 = .ok (.lrem, 1) := by decide +kernel
theorem dX8_tellsPart_18 : decode cX8_tellsPart 18 = .ok (.lstore 9, 2) := by decide +kernel
theorem dX8_tellsPart_20 : decode cX8_tellsPart 20 = .ok (.lload 7, 2) := by decide +kernel
theorem dX8_tellsPart_22 : decode cX8_tellsPart 22 = .ok (.lstore 5, 2) := by decide +kernel
theorem dX8_tellsPart_24 : decode cX8_tellsPart 24 = .ok (.lload 9, 2) := by decide +kernel
theorem dX8_tellsPart_26 : decode cX8_tellsPart 26 = .ok (.lstore 7, 2) := by decide +kernel
theorem dX8_tellsPart_28 : decode cX8_tellsPart 28 = .ok (.goto (-22), 3) := by decide +kernel
theorem dX8_tellsPart_31 : decode cX8_tellsPart 31 = .ok (.aload_n 0, 1) := by decide +kernel
theorem dX8_tellsPart_32 : decode cX8_tellsPart 32 = .ok (.lload_n 1, 1) := by decide +kernel
theorem dX8_tellsPart_33 : decode cX8_tellsPart 33 = .ok (.lload 5, 2) := by decide +kernel
theorem dX8_tellsPart_35 : decode cX8_tellsPart 35 = .ok (.ldiv, 1) := by decide +kernel
theorem dX8_tellsPart_36 : decode cX8_tellsPart 36 = .ok (.putfield 207, 3) := by decide +kernel
theorem dX8_tellsPart_39 : decode cX8_tellsPart 39 = .ok (.aload_n 0, 1) := by decide +kernel
theorem dX8_tellsPart_40 : decode cX8_tellsPart 40 = .ok (.lload_n 3, 1) := by decide +kernel
theorem dX8_tellsPart_41 : decode cX8_tellsPart 41 = .ok (.lload 5, 2) := by decide +kernel
theorem dX8_tellsPart_43 : decode cX8_tellsPart 43 = .ok (.ldiv, 1) := by decide +kernel
theorem dX8_tellsPart_44 : decode cX8_tellsPart 44 = .ok (.putfield 25, 3) := by decide +kernel
theorem dX8_tellsPart_47 : decode cX8_tellsPart 47 = .ok (.return_, 1) := by decide +kernel
theorem dX8_partOf_0 : decode cX8_partOf 0 = .ok (.iload_n 0, 1) := by decide +kernel
theorem dX8_partOf_1 : decode cX8_partOf 1 = .ok (.iload_n 1, 1) := by decide +kernel
theorem dX8_partOf_2 : decode cX8_partOf 2 = .ok (.if_icmp .ge 8, 3) := by decide +kernel
theorem dX8_partOf_5 : decode cX8_partOf 5 = .ok (.iload_n 2, 1) := by decide +kernel
theorem dX8_partOf_6 : decode cX8_partOf 6 = .ok (.i2l, 1) := by decide +kernel
theorem dX8_partOf_7 : decode cX8_partOf 7 = .ok (.goto 6, 3) := by decide +kernel
theorem dX8_partOf_10 : decode cX8_partOf 10 = .ok (.ldc2_w 229, 3) := by decide +kernel
theorem dX8_partOf_13 : decode cX8_partOf 13 = .ok (.lstore_n 3, 1) := by decide +kernel
theorem dX8_partOf_14 : decode cX8_partOf 14 = .ok (.iconst 0, 1) := by decide +kernel
theorem dX8_partOf_15 : decode cX8_partOf 15 = .ok (.istore 5, 2) := by decide +kernel
theorem dX8_partOf_17 : decode cX8_partOf 17 = .ok (.iload 5, 2) := by decide +kernel
theorem dX8_partOf_19 : decode cX8_partOf 19 = .ok (.iload_n 1, 1) := by decide +kernel
theorem dX8_partOf_20 : decode cX8_partOf 20 = .ok (.if_icmp .ge 40, 3) := by decide +kernel
theorem dX8_partOf_23 : decode cX8_partOf 23 = .ok (.lload_n 3, 1) := by decide +kernel
theorem dX8_partOf_24 : decode cX8_partOf 24 = .ok (.iload 5, 2) := by decide +kernel
theorem dX8_partOf_26 : decode cX8_partOf 26 = .ok (.iload_n 0, 1) := by decide +kernel
theorem dX8_partOf_27 : decode cX8_partOf 27 = .ok (.if_icmp .ge 12, 3) := by decide +kernel
theorem dX8_partOf_30 : decode cX8_partOf 30 = .ok (.ldc2_w 229, 3) := by decide +kernel
theorem dX8_partOf_33 : decode cX8_partOf 33 = .ok (.iload_n 2, 1) := by decide +kernel
theorem dX8_partOf_34 : decode cX8_partOf 34 = .ok (.i2l, 1) := by decide +kernel
theorem dX8_partOf_35 : decode cX8_partOf 35 = .ok (.lsub, 1) := by decide +kernel
theorem dX8_partOf_36 : decode cX8_partOf 36 = .ok (.goto 16, 3) := by decide +kernel
theorem dX8_partOf_39 : decode cX8_partOf 39 = .ok (.iload 5, 2) := by decide +kernel
theorem dX8_partOf_41 : decode cX8_partOf 41 = .ok (.iload_n 0, 1) := by decide +kernel
theorem dX8_partOf_42 : decode cX8_partOf 42 = .ok (.if_icmp .le 9, 3) := by decide +kernel
theorem dX8_partOf_45 : decode cX8_partOf 45 = .ok (.ldc2_w 229, 3) := by decide +kernel
theorem dX8_partOf_48 : decode cX8_partOf 48 = .ok (.goto 4, 3) := by decide +kernel
theorem dX8_partOf_51 : decode cX8_partOf 51 = .ok (.lconst 1, 1) := by decide +kernel
theorem dX8_partOf_52 : decode cX8_partOf 52 = .ok (.lmul, 1) := by decide +kernel
theorem dX8_partOf_53 : decode cX8_partOf 53 = .ok (.lstore_n 3, 1) := by decide +kernel
theorem dX8_partOf_54 : decode cX8_partOf 54 = .ok (.iinc 5 1, 3) := by decide +kernel
theorem dX8_partOf_57 : decode cX8_partOf 57 = .ok (.goto (-40), 3) := by decide +kernel
theorem dX8_partOf_60 : decode cX8_partOf 60 = .ok (.iload_n 0, 1) := by decide +kernel
theorem dX8_partOf_61 : decode cX8_partOf 61 = .ok (.iload_n 1, 1) := by decide +kernel
theorem dX8_partOf_62 : decode cX8_partOf 62 = .ok (.if_icmp .ge 7, 3) := by decide +kernel
theorem dX8_partOf_65 : decode cX8_partOf 65 = .ok (.lload_n 3, 1) := by decide +kernel
theorem dX8_partOf_66 : decode cX8_partOf 66 = .ok (.goto 8, 3) := by decide +kernel
theorem dX8_partOf_69 : decode cX8_partOf 69 = .ok (.lload_n 3, 1) := by decide +kernel
theorem dX8_partOf_70 : decode cX8_partOf 70 = .ok (.ldc2_w 229, 3) := by decide +kernel
theorem dX8_partOf_73 : decode cX8_partOf 73 = .ok (.ldiv, 1) := by decide +kernel
theorem dX8_partOf_74 : decode cX8_partOf 74 = .ok (.lreturn, 1) := by decide +kernel
theorem dX8_whole_0 : decode cX8_whole 0 = .ok (.lconst 1, 1) := by decide +kernel
theorem dX8_whole_1 : decode cX8_whole 1 = .ok (.lstore_n 1, 1) := by decide +kernel
theorem dX8_whole_2 : decode cX8_whole 2 = .ok (.iconst 0, 1) := by decide +kernel
theorem dX8_whole_3 : decode cX8_whole 3 = .ok (.istore_n 3, 1) := by decide +kernel
theorem dX8_whole_4 : decode cX8_whole 4 = .ok (.iload_n 3, 1) := by decide +kernel
theorem dX8_whole_5 : decode cX8_whole 5 = .ok (.iload_n 0, 1) := by decide +kernel
theorem dX8_whole_6 : decode cX8_whole 6 = .ok (.if_icmp .ge 15, 3) := by decide +kernel
theorem dX8_whole_9 : decode cX8_whole 9 = .ok (.lload_n 1, 1) := by decide +kernel
theorem dX8_whole_10 : decode cX8_whole 10 = .ok (.ldc2_w 229, 3) := by decide +kernel
theorem dX8_whole_13 : decode cX8_whole 13 = .ok (.lmul, 1) := by decide +kernel
theorem dX8_whole_14 : decode cX8_whole 14 = .ok (.lstore_n 1, 1) := by decide +kernel
theorem dX8_whole_15 : decode cX8_whole 15 = .ok (.iinc 3 1, 3) := by decide +kernel
theorem dX8_whole_18 : decode cX8_whole 18 = .ok (.goto (-14), 3) := by decide +kernel
theorem dX8_whole_21 : decode cX8_whole 21 = .ok (.lload_n 1, 1) := by decide +kernel
theorem dX8_whole_22 : decode cX8_whole 22 = .ok (.lreturn, 1) := by decide +kernel
theorem dX8_odds_0 : decode cX8_odds 0 = .ok (.iload_n 1, 1) := by decide +kernel
theorem dX8_odds_1 : decode cX8_odds 1 = .ok (.iconst 0, 1) := by decide +kernel
theorem dX8_odds_2 : decode cX8_odds 2 = .ok (.sipush 7992, 3) := by decide +kernel
theorem dX8_odds_5 : decode cX8_odds 5 = .ok (.invokestatic 66, 3) := by decide +kernel
theorem dX8_odds_8 : decode cX8_odds 8 = .ok (.ifCond .eq 23, 3) := by decide +kernel
theorem dX8_odds_11 : decode cX8_odds 11 = .ok (.iload_n 2, 1) := by decide +kernel
theorem dX8_odds_12 : decode cX8_odds 12 = .ok (.iconst 0, 1) := by decide +kernel
theorem dX8_odds_13 : decode cX8_odds 13 = .ok (.bipush 6, 2) := by decide +kernel
theorem dX8_odds_15 : decode cX8_odds 15 = .ok (.invokestatic 66, 3) := by decide +kernel
theorem dX8_odds_18 : decode cX8_odds 18 = .ok (.ifCond .eq 13, 3) := by decide +kernel
theorem dX8_odds_21 : decode cX8_odds 21 = .ok (.iload_n 3, 1) := by decide +kernel
theorem dX8_odds_22 : decode cX8_odds 22 = .ok (.iconst 0, 1) := by decide +kernel
theorem dX8_odds_23 : decode cX8_odds 23 = .ok (.bipush 12, 2) := by decide +kernel
theorem dX8_odds_25 : decode cX8_odds 25 = .ok (.invokestatic 66, 3) := by decide +kernel
theorem dX8_odds_28 : decode cX8_odds 28 = .ok (.ifCond .ne 5, 3) := by decide +kernel
theorem dX8_odds_31 : decode cX8_odds 31 = .ok (.iconst (-1), 1) := by decide +kernel
theorem dX8_odds_32 : decode cX8_odds 32 = .ok (.ireturn, 1) := by decide +kernel
theorem dX8_odds_33 : decode cX8_odds 33 = .ok (.aload_n 0, 1) := by decide +kernel
theorem dX8_odds_34 : decode cX8_odds 34 = .ok (.getfield 63, 3) := by decide +kernel
theorem dX8_odds_37 : decode cX8_odds 37 = .ok (.ifCond .ne 6, 3) := by decide +kernel
theorem dX8_odds_40 : decode cX8_odds 40 = .ok (.bipush (-4), 2) := by decide +kernel
theorem dX8_odds_42 : decode cX8_odds 42 = .ok (.ireturn, 1) := by decide +kernel
theorem dX8_odds_43 : decode cX8_odds 43 = .ok (.aload_n 0, 1) := by decide +kernel
theorem dX8_odds_44 : decode cX8_odds 44 = .ok (.invokevirtual 184, 3) := by decide +kernel
theorem dX8_odds_47 : decode cX8_odds 47 = .ok (.lconst 0, 1) := by decide +kernel
theorem dX8_odds_48 : decode cX8_odds 48 = .ok (.lstore 4, 2) := by decide +kernel
theorem dX8_odds_50 : decode cX8_odds 50 = .ok (.iconst 0, 1) := by decide +kernel
theorem dX8_odds_51 : decode cX8_odds 51 = .ok (.istore 6, 2) := by decide +kernel
theorem dX8_odds_53 : decode cX8_odds 53 = .ok (.iload 6, 2) := by decide +kernel
theorem dX8_odds_55 : decode cX8_odds 55 = .ok (.iload_n 2, 1) := by decide +kernel
theorem dX8_odds_56 : decode cX8_odds 56 = .ok (.if_icmp .gt 46, 3) := by decide +kernel
theorem dX8_odds_59 : decode cX8_odds 59 = .ok (.lload 4, 2) := by decide +kernel
theorem dX8_odds_61 : decode cX8_odds 61 = .ok (.aload_n 0, 1) := by decide +kernel
theorem dX8_odds_62 : decode cX8_odds 62 = .ok (.aload_n 0, 1) := by decide +kernel
theorem dX8_odds_63 : decode cX8_odds 63 = .ok (.getfield 41, 3) := by decide +kernel
theorem dX8_odds_66 : decode cX8_odds 66 = .ok (.invokevirtual 167, 3) := by decide +kernel
theorem dX8_odds_69 : decode cX8_odds 69 = .ok (.iload_n 1, 1) := by decide +kernel
theorem dX8_odds_70 : decode cX8_odds 70 = .ok (.if_icmp .lt 13, 3) := by decide +kernel
theorem dX8_odds_73 : decode cX8_odds 73 = .ok (.iload 6, 2) := by decide +kernel
theorem dX8_odds_75 : decode cX8_odds 75 = .ok (.iload_n 2, 1) := by decide +kernel
theorem dX8_odds_76 : decode cX8_odds 76 = .ok (.iload_n 3, 1) := by decide +kernel
theorem dX8_odds_77 : decode cX8_odds 77 = .ok (.invokestatic 231, 3) := by decide +kernel
theorem dX8_odds_80 : decode cX8_odds 80 = .ok (.goto 4, 3) := by decide +kernel
theorem dX8_odds_83 : decode cX8_odds 83 = .ok (.lconst 0, 1) := by decide +kernel
theorem dX8_odds_84 : decode cX8_odds 84 = .ok (.ladd, 1) := by decide +kernel
theorem dX8_odds_85 : decode cX8_odds 85 = .ok (.lstore 4, 2) := by decide +kernel
theorem dX8_odds_87 : decode cX8_odds 87 = .ok (.aload_n 0, 1) := by decide +kernel
theorem dX8_odds_88 : decode cX8_odds 88 = .ok (.aload_n 0, 1) := by decide +kernel
theorem dX8_odds_89 : decode cX8_odds 89 = .ok (.getfield 41, 3) := by decide +kernel
theorem dX8_odds_92 : decode cX8_odds 92 = .ok (.invokevirtual 177, 3) := by decide +kernel
theorem dX8_odds_95 : decode cX8_odds 95 = .ok (.pop, 1) := by decide +kernel
theorem dX8_odds_96 : decode cX8_odds 96 = .ok (.iinc 6 1, 3) := by decide +kernel
theorem dX8_odds_99 : decode cX8_odds 99 = .ok (.goto (-46), 3) := by decide +kernel
theorem dX8_odds_102 : decode cX8_odds 102 = .ok (.aload_n 0, 1) := by decide +kernel
theorem dX8_odds_103 : decode cX8_odds 103 = .ok (.lload 4, 2) := by decide +kernel
theorem dX8_odds_105 : decode cX8_odds 105 = .ok (.iload_n 2, 1) := by decide +kernel
theorem dX8_odds_106 : decode cX8_odds 106 = .ok (.invokestatic 235, 3) := by decide +kernel
theorem dX8_odds_109 : decode cX8_odds 109 = .ok (.invokevirtual 239, 3) := by decide +kernel
theorem dX8_odds_112 : decode cX8_odds 112 = .ok (.iconst 1, 1) := by decide +kernel
theorem dX8_odds_113 : decode cX8_odds 113 = .ok (.ireturn, 1) := by decide +kernel
theorem dX8_mid_0 : decode cX8_mid 0 = .ok (.iload_n 1, 1) := by decide +kernel
theorem dX8_mid_1 : decode cX8_mid 1 = .ok (.iconst 0, 1) := by decide +kernel
theorem dX8_mid_2 : decode cX8_mid 2 = .ok (.bipush 6, 2) := by decide +kernel
theorem dX8_mid_4 : decode cX8_mid 4 = .ok (.invokestatic 66, 3) := by decide +kernel
theorem dX8_mid_7 : decode cX8_mid 7 = .ok (.ifCond .eq 13, 3) := by decide +kernel
theorem dX8_mid_10 : decode cX8_mid 10 = .ok (.iload_n 2, 1) := by decide +kernel
theorem dX8_mid_11 : decode cX8_mid 11 = .ok (.iconst 0, 1) := by decide +kernel
theorem dX8_mid_12 : decode cX8_mid 12 = .ok (.bipush 12, 2) := by decide +kernel
theorem dX8_mid_14 : decode cX8_mid 14 = .ok (.invokestatic 66, 3) := by decide +kernel
theorem dX8_mid_17 : decode cX8_mid 17 = .ok (.ifCond .ne 5, 3) := by decide +kernel
theorem dX8_mid_20 : decode cX8_mid 20 = .ok (.iconst (-1), 1) := by decide +kernel
theorem dX8_mid_21 : decode cX8_mid 21 = .ok (.ireturn, 1) := by decide +kernel
theorem dX8_mid_22 : decode cX8_mid 22 = .ok (.aload_n 0, 1) := by decide +kernel
theorem dX8_mid_23 : decode cX8_mid 23 = .ok (.getfield 63, 3) := by decide +kernel
theorem dX8_mid_26 : decode cX8_mid 26 = .ok (.ifCond .ne 6, 3) := by decide +kernel
theorem dX8_mid_29 : decode cX8_mid 29 = .ok (.bipush (-4), 2) := by decide +kernel
theorem dX8_mid_31 : decode cX8_mid 31 = .ok (.ireturn, 1) := by decide +kernel
theorem dX8_mid_32 : decode cX8_mid 32 = .ok (.aload_n 0, 1) := by decide +kernel
theorem dX8_mid_33 : decode cX8_mid 33 = .ok (.invokevirtual 184, 3) := by decide +kernel
theorem dX8_mid_36 : decode cX8_mid 36 = .ok (.lconst 0, 1) := by decide +kernel
theorem dX8_mid_37 : decode cX8_mid 37 = .ok (.lstore_n 3, 1) := by decide +kernel
theorem dX8_mid_38 : decode cX8_mid 38 = .ok (.iconst 0, 1) := by decide +kernel
theorem dX8_mid_39 : decode cX8_mid 39 = .ok (.istore 5, 2) := by decide +kernel
theorem dX8_mid_41 : decode cX8_mid 41 = .ok (.iload 5, 2) := by decide +kernel
theorem dX8_mid_43 : decode cX8_mid 43 = .ok (.iload_n 1, 1) := by decide +kernel
theorem dX8_mid_44 : decode cX8_mid 44 = .ok (.if_icmp .gt 38, 3) := by decide +kernel
theorem dX8_mid_47 : decode cX8_mid 47 = .ok (.lload_n 3, 1) := by decide +kernel
theorem dX8_mid_48 : decode cX8_mid 48 = .ok (.aload_n 0, 1) := by decide +kernel
theorem dX8_mid_49 : decode cX8_mid 49 = .ok (.aload_n 0, 1) := by decide +kernel
theorem dX8_mid_50 : decode cX8_mid 50 = .ok (.getfield 41, 3) := by decide +kernel
theorem dX8_mid_53 : decode cX8_mid 53 = .ok (.invokevirtual 167, 3) := by decide +kernel
theorem dX8_mid_56 : decode cX8_mid 56 = .ok (.i2l, 1) := by decide +kernel
theorem dX8_mid_57 : decode cX8_mid 57 = .ok (.iload 5, 2) := by decide +kernel
theorem dX8_mid_59 : decode cX8_mid 59 = .ok (.iload_n 1, 1) := by decide +kernel
theorem dX8_mid_60 : decode cX8_mid 60 = .ok (.iload_n 2, 1) := by decide +kernel
theorem dX8_mid_61 : decode cX8_mid 61 = .ok (.invokestatic 231, 3) := by decide +kernel
theorem dX8_mid_64 : decode cX8_mid 64 = .ok (.lmul, 1) := by decide +kernel
theorem dX8_mid_65 : decode cX8_mid 65 = .ok (.ladd, 1) := by decide +kernel
theorem dX8_mid_66 : decode cX8_mid 66 = .ok (.lstore_n 3, 1) := by decide +kernel
theorem dX8_mid_67 : decode cX8_mid 67 = .ok (.aload_n 0, 1) := by decide +kernel
theorem dX8_mid_68 : decode cX8_mid 68 = .ok (.aload_n 0, 1) := by decide +kernel
theorem dX8_mid_69 : decode cX8_mid 69 = .ok (.getfield 41, 3) := by decide +kernel
theorem dX8_mid_72 : decode cX8_mid 72 = .ok (.invokevirtual 177, 3) := by decide +kernel
theorem dX8_mid_75 : decode cX8_mid 75 = .ok (.pop, 1) := by decide +kernel
theorem dX8_mid_76 : decode cX8_mid 76 = .ok (.iinc 5 1, 3) := by decide +kernel
theorem dX8_mid_79 : decode cX8_mid 79 = .ok (.goto (-38), 3) := by decide +kernel
theorem dX8_mid_82 : decode cX8_mid 82 = .ok (.aload_n 0, 1) := by decide +kernel
theorem dX8_mid_83 : decode cX8_mid 83 = .ok (.lload_n 3, 1) := by decide +kernel
theorem dX8_mid_84 : decode cX8_mid 84 = .ok (.iload_n 1, 1) := by decide +kernel
theorem dX8_mid_85 : decode cX8_mid 85 = .ok (.invokestatic 235, 3) := by decide +kernel
theorem dX8_mid_88 : decode cX8_mid 88 = .ok (.invokevirtual 239, 3) := by decide +kernel
theorem dX8_mid_91 : decode cX8_mid 91 = .ok (.iconst 1, 1) := by decide +kernel
theorem dX8_mid_92 : decode cX8_mid 92 = .ok (.ireturn, 1) := by decide +kernel
theorem dX8_lots_0 : decode cX8_lots 0 = .ok (.iload_n 1, 1) := by decide +kernel
theorem dX8_lots_1 : decode cX8_lots 1 = .ok (.iconst 1, 1) := by decide +kernel
theorem dX8_lots_2 : decode cX8_lots 2 = .ok (.bipush 20, 2) := by decide +kernel
theorem dX8_lots_4 : decode cX8_lots 4 = .ok (.invokestatic 66, 3) := by decide +kernel
theorem dX8_lots_7 : decode cX8_lots 7 = .ok (.ifCond .eq 13, 3) := by decide +kernel
theorem dX8_lots_10 : decode cX8_lots 10 = .ok (.iload_n 2, 1) := by decide +kernel
theorem dX8_lots_11 : decode cX8_lots 11 = .ok (.iconst 1, 1) := by decide +kernel
theorem dX8_lots_12 : decode cX8_lots 12 = .ok (.ldc 243, 2) := by decide +kernel
theorem dX8_lots_14 : decode cX8_lots 14 = .ok (.invokestatic 66, 3) := by decide +kernel
theorem dX8_lots_17 : decode cX8_lots 17 = .ok (.ifCond .ne 5, 3) := by decide +kernel
theorem dX8_lots_20 : decode cX8_lots 20 = .ok (.iconst (-1), 1) := by decide +kernel
theorem dX8_lots_21 : decode cX8_lots 21 = .ok (.ireturn, 1) := by decide +kernel
theorem dX8_lots_22 : decode cX8_lots 22 = .ok (.aload_n 0, 1) := by decide +kernel
theorem dX8_lots_23 : decode cX8_lots 23 = .ok (.getfield 63, 3) := by decide +kernel
theorem dX8_lots_26 : decode cX8_lots 26 = .ok (.ifCond .ne 6, 3) := by decide +kernel
theorem dX8_lots_29 : decode cX8_lots 29 = .ok (.bipush (-4), 2) := by decide +kernel
theorem dX8_lots_31 : decode cX8_lots 31 = .ok (.ireturn, 1) := by decide +kernel
theorem dX8_lots_32 : decode cX8_lots 32 = .ok (.aload_n 0, 1) := by decide +kernel
theorem dX8_lots_33 : decode cX8_lots 33 = .ok (.getfield 130, 3) := by decide +kernel
theorem dX8_lots_36 : decode cX8_lots 36 = .ok (.iload_n 1, 1) := by decide +kernel
theorem dX8_lots_37 : decode cX8_lots 37 = .ok (.iadd, 1) := by decide +kernel
theorem dX8_lots_38 : decode cX8_lots 38 = .ok (.bipush 40, 2) := by decide +kernel
theorem dX8_lots_40 : decode cX8_lots 40 = .ok (.if_icmp .le 6, 3) := by decide +kernel
theorem dX8_lots_43 : decode cX8_lots 43 = .ok (.bipush (-2), 2) := by decide +kernel
theorem dX8_lots_45 : decode cX8_lots 45 = .ok (.ireturn, 1) := by decide +kernel
theorem dX8_lots_46 : decode cX8_lots 46 = .ok (.iload_n 2, 1) := by decide +kernel
theorem dX8_lots_47 : decode cX8_lots 47 = .ok (.i2l, 1) := by decide +kernel
theorem dX8_lots_48 : decode cX8_lots 48 = .ok (.lstore_n 3, 1) := by decide +kernel
theorem dX8_lots_49 : decode cX8_lots 49 = .ok (.iconst 0, 1) := by decide +kernel
theorem dX8_lots_50 : decode cX8_lots 50 = .ok (.istore 5, 2) := by decide +kernel
theorem dX8_lots_52 : decode cX8_lots 52 = .ok (.iload 5, 2) := by decide +kernel
theorem dX8_lots_54 : decode cX8_lots 54 = .ok (.iload_n 1, 1) := by decide +kernel
theorem dX8_lots_55 : decode cX8_lots 55 = .ok (.if_icmp .ge 118, 3) := by decide +kernel
theorem dX8_lots_58 : decode cX8_lots 58 = .ok (.lload_n 3, 1) := by decide +kernel
theorem dX8_lots_59 : decode cX8_lots 59 = .ok (.ldc2_w 244, 3) := by decide +kernel
theorem dX8_lots_62 : decode cX8_lots 62 = .ok (.lmul, 1) := by decide +kernel
theorem dX8_lots_63 : decode cX8_lots 63 = .ok (.ldc2_w 246, 3) := by decide +kernel
theorem dX8_lots_66 : decode cX8_lots 66 = .ok (.lrem, 1) := by decide +kernel
theorem dX8_lots_67 : decode cX8_lots 67 = .ok (.lstore_n 3, 1) := by decide +kernel
theorem dX8_lots_68 : decode cX8_lots 68 = .ok (.aload_n 0, 1) := by decide +kernel
theorem dX8_lots_69 : decode cX8_lots 69 = .ok (.invokevirtual 171, 3) := by decide +kernel
theorem dX8_lots_72 : decode cX8_lots 72 = .ok (.lload_n 3, 1) := by decide +kernel
theorem dX8_lots_73 : decode cX8_lots 73 = .ok (.ldc2_w 248, 3) := by decide +kernel
theorem dX8_lots_76 : decode cX8_lots 76 = .ok (.ldiv, 1) := by decide +kernel
theorem dX8_lots_77 : decode cX8_lots 77 = .ok (.ldc2_w 248, 3) := by decide +kernel
theorem dX8_lots_80 : decode cX8_lots 80 = .ok (.lrem, 1) := by decide +kernel
theorem dX8_lots_81 : decode cX8_lots 81 = .ok (.l2i, 1) := by decide +kernel
theorem dX8_lots_82 : decode cX8_lots 82 = .ok (.istore 6, 2) := by decide +kernel
theorem dX8_lots_84 : decode cX8_lots 84 = .ok (.iload 6, 2) := by decide +kernel
theorem dX8_lots_86 : decode cX8_lots 86 = .ok (.ifCond .ne 15, 3) := by decide +kernel
theorem dX8_lots_89 : decode cX8_lots 89 = .ok (.aload_n 0, 1) := by decide +kernel
theorem dX8_lots_90 : decode cX8_lots 90 = .ok (.aload_n 0, 1) := by decide +kernel
theorem dX8_lots_91 : decode cX8_lots 91 = .ok (.getfield 38, 3) := by decide +kernel
theorem dX8_lots_94 : decode cX8_lots 94 = .ok (.invokevirtual 177, 3) := by decide +kernel
theorem dX8_lots_97 : decode cX8_lots 97 = .ok (.pop, 1) := by decide +kernel
theorem dX8_lots_98 : decode cX8_lots 98 = .ok (.goto 69, 3) := by decide +kernel
theorem dX8_lots_101 : decode cX8_lots 101 = .ok (.iload 6, 2) := by decide +kernel
theorem dX8_lots_103 : decode cX8_lots 103 = .ok (.iconst 1, 1) := by decide +kernel
theorem dX8_lots_104 : decode cX8_lots 104 = .ok (.if_icmp .ne 20, 3) := by decide +kernel
theorem dX8_lots_107 : decode cX8_lots 107 = .ok (.aload_n 0, 1) := by decide +kernel
theorem dX8_lots_108 : decode cX8_lots 108 = .ok (.getfield 38, 3) := by decide +kernel
theorem dX8_lots_111 : decode cX8_lots 111 = .ok (.lload_n 3, 1) := by decide +kernel
theorem dX8_lots_112 : decode cX8_lots 112 = .ok (.aload_n 0, 1) := by decide +kernel
theorem dX8_lots_113 : decode cX8_lots 113 = .ok (.getfield 70, 3) := by decide +kernel
theorem dX8_lots_116 : decode cX8_lots 116 = .ok (.i2l, 1) := by decide +kernel
theorem dX8_lots_117 : decode cX8_lots 117 = .ok (.lrem, 1) := by decide +kernel
theorem dX8_lots_118 : decode cX8_lots 118 = .ok (.l2i, 1) := by decide +kernel
theorem dX8_lots_119 : decode cX8_lots 119 = .ok (.iconst 0, 1) := by decide +kernel
theorem dX8_lots_120 : decode cX8_lots 120 = .ok (.iastore, 1) := by decide +kernel
theorem dX8_lots_121 : decode cX8_lots 121 = .ok (.goto 46, 3) := by decide +kernel
theorem dX8_lots_124 : decode cX8_lots 124 = .ok (.iload 6, 2) := by decide +kernel
theorem dX8_lots_126 : decode cX8_lots 126 = .ok (.iconst 2, 1) := by decide +kernel
theorem dX8_lots_127 : decode cX8_lots 127 = .ok (.if_icmp .ne 14, 3) := by decide +kernel
theorem dX8_lots_130 : decode cX8_lots 130 = .ok (.aload_n 0, 1) := by decide +kernel
theorem dX8_lots_131 : decode cX8_lots 131 = .ok (.aload_n 0, 1) := by decide +kernel
theorem dX8_lots_132 : decode cX8_lots 132 = .ok (.getfield 38, 3) := by decide +kernel
theorem dX8_lots_135 : decode cX8_lots 135 = .ok (.invokevirtual 180, 3) := by decide +kernel
theorem dX8_lots_138 : decode cX8_lots 138 = .ok (.goto 29, 3) := by decide +kernel
theorem dX8_lots_141 : decode cX8_lots 141 = .ok (.aload_n 0, 1) := by decide +kernel
theorem dX8_lots_142 : decode cX8_lots 142 = .ok (.aload_n 0, 1) := by decide +kernel
theorem dX8_lots_143 : decode cX8_lots 143 = .ok (.getfield 38, 3) := by decide +kernel
theorem dX8_lots_146 : decode cX8_lots 146 = .ok (.lload_n 3, 1) := by decide +kernel
theorem dX8_lots_147 : decode cX8_lots 147 = .ok (.aload_n 0, 1) := by decide +kernel
theorem dX8_lots_148 : decode cX8_lots 148 = .ok (.getfield 63, 3) := by decide +kernel
theorem dX8_lots_151 : decode cX8_lots 151 = .ok (.i2l, 1) := by decide +kernel
theorem dX8_lots_152 : decode cX8_lots 152 = .ok (.lrem, 1) := by decide +kernel
theorem dX8_lots_153 : decode cX8_lots 153 = .ok (.l2i, 1) := by decide +kernel
theorem dX8_lots_154 : decode cX8_lots 154 = .ok (.lload_n 3, 1) := by decide +kernel
theorem dX8_lots_155 : decode cX8_lots 155 = .ok (.ldc2_w 250, 3) := by decide +kernel
theorem dX8_lots_158 : decode cX8_lots 158 = .ok (.ldiv, 1) := by decide +kernel
theorem dX8_lots_159 : decode cX8_lots 159 = .ok (.ldc2_w 252, 3) := by decide +kernel
theorem dX8_lots_162 : decode cX8_lots 162 = .ok (.lrem, 1) := by decide +kernel
theorem dX8_lots_163 : decode cX8_lots 163 = .ok (.l2i, 1) := by decide +kernel
theorem dX8_lots_164 : decode cX8_lots 164 = .ok (.invokevirtual 174, 3) := by decide +kernel
theorem dX8_lots_167 : decode cX8_lots 167 = .ok (.iinc 5 1, 3) := by decide +kernel
theorem dX8_lots_170 : decode cX8_lots 170 = .ok (.goto (-118), 3) := by decide +kernel
theorem dX8_lots_173 : decode cX8_lots 173 = .ok (.aload_n 0, 1) := by decide +kernel
theorem dX8_lots_174 : decode cX8_lots 174 = .ok (.aload_n 0, 1) := by decide +kernel
theorem dX8_lots_175 : decode cX8_lots 175 = .ok (.getfield 38, 3) := by decide +kernel
theorem dX8_lots_178 : decode cX8_lots 178 = .ok (.invokevirtual 167, 3) := by decide +kernel
theorem dX8_lots_181 : decode cX8_lots 181 = .ok (.ireturn, 1) := by decide +kernel
theorem dX8_asked_0 : decode cX8_asked 0 = .ok (.aload_n 0, 1) := by decide +kernel
theorem dX8_asked_1 : decode cX8_asked 1 = .ok (.getfield 60, 3) := by decide +kernel
theorem dX8_asked_4 : decode cX8_asked 4 = .ok (.ireturn, 1) := by decide +kernel
theorem dX8_upper_0 : decode cX8_upper 0 = .ok (.aload_n 0, 1) := by decide +kernel
theorem dX8_upper_1 : decode cX8_upper 1 = .ok (.getfield 207, 3) := by decide +kernel
theorem dX8_upper_4 : decode cX8_upper 4 = .ok (.lreturn, 1) := by decide +kernel
theorem dX8_lower_0 : decode cX8_lower 0 = .ok (.aload_n 0, 1) := by decide +kernel
theorem dX8_lower_1 : decode cX8_lower 1 = .ok (.getfield 25, 3) := by decide +kernel
theorem dX8_lower_4 : decode cX8_lower 4 = .ok (.lreturn, 1) := by decide +kernel
theorem dX8_thereOf_0 : decode cX8_thereOf 0 = .ok (.iconst 0, 1) := by decide +kernel
theorem dX8_thereOf_1 : decode cX8_thereOf 1 = .ok (.istore_n 1, 1) := by decide +kernel
theorem dX8_thereOf_2 : decode cX8_thereOf 2 = .ok (.aload_n 0, 1) := by decide +kernel
theorem dX8_thereOf_3 : decode cX8_thereOf 3 = .ok (.astore_n 2, 1) := by decide +kernel
theorem dX8_thereOf_4 : decode cX8_thereOf 4 = .ok (.aload_n 2, 1) := by decide +kernel
theorem dX8_thereOf_5 : decode cX8_thereOf 5 = .ok (.arraylength, 1) := by decide +kernel
theorem dX8_thereOf_6 : decode cX8_thereOf 6 = .ok (.istore_n 3, 1) := by decide +kernel
theorem dX8_thereOf_7 : decode cX8_thereOf 7 = .ok (.iconst 0, 1) := by decide +kernel
theorem dX8_thereOf_8 : decode cX8_thereOf 8 = .ok (.istore 4, 2) := by decide +kernel
theorem dX8_thereOf_10 : decode cX8_thereOf 10 = .ok (.iload 4, 2) := by decide +kernel
theorem dX8_thereOf_12 : decode cX8_thereOf 12 = .ok (.iload_n 3, 1) := by decide +kernel
theorem dX8_thereOf_13 : decode cX8_thereOf 13 = .ok (.if_icmp .ge 28, 3) := by decide +kernel
theorem dX8_thereOf_16 : decode cX8_thereOf 16 = .ok (.aload_n 2, 1) := by decide +kernel
theorem dX8_thereOf_17 : decode cX8_thereOf 17 = .ok (.iload 4, 2) := by decide +kernel
theorem dX8_thereOf_19 : decode cX8_thereOf 19 = .ok (.iaload, 1) := by decide +kernel
theorem dX8_thereOf_20 : decode cX8_thereOf 20 = .ok (.istore 5, 2) := by decide +kernel
theorem dX8_thereOf_22 : decode cX8_thereOf 22 = .ok (.iload_n 1, 1) := by decide +kernel
theorem dX8_thereOf_23 : decode cX8_thereOf 23 = .ok (.iload 5, 2) := by decide +kernel
theorem dX8_thereOf_25 : decode cX8_thereOf 25 = .ok (.ifCond .ge 7, 3) := by decide +kernel
theorem dX8_thereOf_28 : decode cX8_thereOf 28 = .ok (.iconst 0, 1) := by decide +kernel
theorem dX8_thereOf_29 : decode cX8_thereOf 29 = .ok (.goto 4, 3) := by decide +kernel
theorem dX8_thereOf_32 : decode cX8_thereOf 32 = .ok (.iconst 1, 1) := by decide +kernel
theorem dX8_thereOf_33 : decode cX8_thereOf 33 = .ok (.iadd, 1) := by decide +kernel
theorem dX8_thereOf_34 : decode cX8_thereOf 34 = .ok (.istore_n 1, 1) := by decide +kernel
theorem dX8_thereOf_35 : decode cX8_thereOf 35 = .ok (.iinc 4 1, 3) := by decide +kernel
theorem dX8_thereOf_38 : decode cX8_thereOf 38 = .ok (.goto (-28), 3) := by decide +kernel
theorem dX8_thereOf_41 : decode cX8_thereOf 41 = .ok (.iload_n 1, 1) := by decide +kernel
theorem dX8_thereOf_42 : decode cX8_thereOf 42 = .ok (.ireturn, 1) := by decide +kernel
theorem dX8_kindMany_0 : decode cX8_kindMany 0 = .ok (.iconst 0, 1) := by decide +kernel
theorem dX8_kindMany_1 : decode cX8_kindMany 1 = .ok (.istore_n 2, 1) := by decide +kernel
theorem dX8_kindMany_2 : decode cX8_kindMany 2 = .ok (.iconst 0, 1) := by decide +kernel
theorem dX8_kindMany_3 : decode cX8_kindMany 3 = .ok (.istore_n 3, 1) := by decide +kernel
theorem dX8_kindMany_4 : decode cX8_kindMany 4 = .ok (.iload_n 3, 1) := by decide +kernel
theorem dX8_kindMany_5 : decode cX8_kindMany 5 = .ok (.aload_n 0, 1) := by decide +kernel
theorem dX8_kindMany_6 : decode cX8_kindMany 6 = .ok (.getfield 63, 3) := by decide +kernel
theorem dX8_kindMany_9 : decode cX8_kindMany 9 = .ok (.if_icmp .ge 30, 3) := by decide +kernel
theorem dX8_kindMany_12 : decode cX8_kindMany 12 = .ok (.iload_n 2, 1) := by decide +kernel
theorem dX8_kindMany_13 : decode cX8_kindMany 13 = .ok (.aload_n 0, 1) := by decide +kernel
theorem dX8_kindMany_14 : decode cX8_kindMany 14 = .ok (.getfield 32, 3) := by decide +kernel
theorem dX8_kindMany_17 : decode cX8_kindMany 17 = .ok (.iload_n 3, 1) := by decide +kernel
theorem dX8_kindMany_18 : decode cX8_kindMany 18 = .ok (.iaload, 1) := by decide +kernel
theorem dX8_kindMany_19 : decode cX8_kindMany 19 = .ok (.iload_n 1, 1) := by decide +kernel
theorem dX8_kindMany_20 : decode cX8_kindMany 20 = .ok (.invokestatic 143, 3) := by decide +kernel
theorem dX8_kindMany_23 : decode cX8_kindMany 23 = .ok (.ifCond .eq 7, 3) := by decide +kernel
theorem dX8_kindMany_26 : decode cX8_kindMany 26 = .ok (.iconst 1, 1) := by decide +kernel
theorem dX8_kindMany_27 : decode cX8_kindMany 27 = .ok (.goto 4, 3) := by decide +kernel
theorem dX8_kindMany_30 : decode cX8_kindMany 30 = .ok (.iconst 0, 1) := by decide +kernel
theorem dX8_kindMany_31 : decode cX8_kindMany 31 = .ok (.iadd, 1) := by decide +kernel
theorem dX8_kindMany_32 : decode cX8_kindMany 32 = .ok (.istore_n 2, 1) := by decide +kernel
theorem dX8_kindMany_33 : decode cX8_kindMany 33 = .ok (.iinc 3 1, 3) := by decide +kernel
theorem dX8_kindMany_36 : decode cX8_kindMany 36 = .ok (.goto (-32), 3) := by decide +kernel
theorem dX8_kindMany_39 : decode cX8_kindMany 39 = .ok (.iload_n 2, 1) := by decide +kernel
theorem dX8_kindMany_40 : decode cX8_kindMany 40 = .ok (.ireturn, 1) := by decide +kernel
theorem dX8_count_0 : decode cX8_count 0 = .ok (.iload_n 1, 1) := by decide +kernel
theorem dX8_count_1 : decode cX8_count 1 = .ok (.tableswitch 156 0 12 #[67, 72, 77, 85, 90, 99, 107, 115, 120, 126, 132, 140, 148], 67) := by decide +kernel
theorem dX8_count_68 : decode cX8_count 68 = .ok (.aload_n 0, 1) := by decide +kernel
theorem dX8_count_69 : decode cX8_count 69 = .ok (.getfield 63, 3) := by decide +kernel
theorem dX8_count_72 : decode cX8_count 72 = .ok (.ireturn, 1) := by decide +kernel
theorem dX8_count_73 : decode cX8_count 73 = .ok (.aload_n 0, 1) := by decide +kernel
theorem dX8_count_74 : decode cX8_count 74 = .ok (.getfield 70, 3) := by decide +kernel
theorem dX8_count_77 : decode cX8_count 77 = .ok (.ireturn, 1) := by decide +kernel
theorem dX8_count_78 : decode cX8_count 78 = .ok (.aload_n 0, 1) := by decide +kernel
theorem dX8_count_79 : decode cX8_count 79 = .ok (.getfield 38, 3) := by decide +kernel
theorem dX8_count_82 : decode cX8_count 82 = .ok (.bipush 8, 2) := by decide +kernel
theorem dX8_count_84 : decode cX8_count 84 = .ok (.iaload, 1) := by decide +kernel
theorem dX8_count_85 : decode cX8_count 85 = .ok (.ireturn, 1) := by decide +kernel
theorem dX8_count_86 : decode cX8_count 86 = .ok (.aload_n 0, 1) := by decide +kernel
theorem dX8_count_87 : decode cX8_count 87 = .ok (.getfield 130, 3) := by decide +kernel
theorem dX8_count_90 : decode cX8_count 90 = .ok (.ireturn, 1) := by decide +kernel
theorem dX8_count_91 : decode cX8_count 91 = .ok (.aload_n 0, 1) := by decide +kernel
theorem dX8_count_92 : decode cX8_count 92 = .ok (.aload_n 0, 1) := by decide +kernel
theorem dX8_count_93 : decode cX8_count 93 = .ok (.getfield 38, 3) := by decide +kernel
theorem dX8_count_96 : decode cX8_count 96 = .ok (.invokevirtual 167, 3) := by decide +kernel
theorem dX8_count_99 : decode cX8_count 99 = .ok (.ireturn, 1) := by decide +kernel
theorem dX8_count_100 : decode cX8_count 100 = .ok (.aload_n 0, 1) := by decide +kernel
theorem dX8_count_101 : decode cX8_count 101 = .ok (.getfield 38, 3) := by decide +kernel
theorem dX8_count_104 : decode cX8_count 104 = .ok (.bipush 9, 2) := by decide +kernel
theorem dX8_count_106 : decode cX8_count 106 = .ok (.iaload, 1) := by decide +kernel
theorem dX8_count_107 : decode cX8_count 107 = .ok (.ireturn, 1) := by decide +kernel
theorem dX8_count_108 : decode cX8_count 108 = .ok (.aload_n 0, 1) := by decide +kernel
theorem dX8_count_109 : decode cX8_count 109 = .ok (.getfield 38, 3) := by decide +kernel
theorem dX8_count_112 : decode cX8_count 112 = .ok (.bipush 10, 2) := by decide +kernel
theorem dX8_count_114 : decode cX8_count 114 = .ok (.iaload, 1) := by decide +kernel
theorem dX8_count_115 : decode cX8_count 115 = .ok (.ireturn, 1) := by decide +kernel
theorem dX8_count_116 : decode cX8_count 116 = .ok (.aload_n 0, 1) := by decide +kernel
theorem dX8_count_117 : decode cX8_count 117 = .ok (.getfield 127, 3) := by decide +kernel
theorem dX8_count_120 : decode cX8_count 120 = .ok (.ireturn, 1) := by decide +kernel
theorem dX8_count_121 : decode cX8_count 121 = .ok (.aload_n 0, 1) := by decide +kernel
theorem dX8_count_122 : decode cX8_count 122 = .ok (.iconst 1, 1) := by decide +kernel
theorem dX8_count_123 : decode cX8_count 123 = .ok (.invokevirtual 254, 3) := by decide +kernel
theorem dX8_count_126 : decode cX8_count 126 = .ok (.ireturn, 1) := by decide +kernel
theorem dX8_count_127 : decode cX8_count 127 = .ok (.aload_n 0, 1) := by decide +kernel
theorem dX8_count_128 : decode cX8_count 128 = .ok (.iconst 2, 1) := by decide +kernel
theorem dX8_count_129 : decode cX8_count 129 = .ok (.invokevirtual 254, 3) := by decide +kernel
theorem dX8_count_132 : decode cX8_count 132 = .ok (.ireturn, 1) := by decide +kernel
theorem dX8_count_133 : decode cX8_count 133 = .ok (.aload_n 0, 1) := by decide +kernel
theorem dX8_count_134 : decode cX8_count 134 = .ok (.getfield 7, 3) := by decide +kernel
theorem dX8_count_137 : decode cX8_count 137 = .ok (.invokestatic 257, 3) := by decide +kernel
theorem dX8_count_140 : decode cX8_count 140 = .ok (.ireturn, 1) := by decide +kernel
theorem dX8_count_141 : decode cX8_count 141 = .ok (.aload_n 0, 1) := by decide +kernel
theorem dX8_count_142 : decode cX8_count 142 = .ok (.getfield 16, 3) := by decide +kernel
theorem dX8_count_145 : decode cX8_count 145 = .ok (.invokestatic 257, 3) := by decide +kernel
theorem dX8_count_148 : decode cX8_count 148 = .ok (.ireturn, 1) := by decide +kernel
theorem dX8_count_149 : decode cX8_count 149 = .ok (.aload_n 0, 1) := by decide +kernel
theorem dX8_count_150 : decode cX8_count 150 = .ok (.getfield 53, 3) := by decide +kernel
theorem dX8_count_153 : decode cX8_count 153 = .ok (.invokestatic 257, 3) := by decide +kernel
theorem dX8_count_156 : decode cX8_count 156 = .ok (.ireturn, 1) := by decide +kernel
theorem dX8_count_157 : decode cX8_count 157 = .ok (.iconst (-1), 1) := by decide +kernel
theorem dX8_count_158 : decode cX8_count 158 = .ok (.ireturn, 1) := by decide +kernel
theorem dX8_finding_0 : decode cX8_finding 0 = .ok (.aload_n 0, 1) := by decide +kernel
theorem dX8_finding_1 : decode cX8_finding 1 = .ok (.getfield 56, 3) := by decide +kernel
theorem dX8_finding_4 : decode cX8_finding 4 = .ok (.ireturn, 1) := by decide +kernel
theorem dX8_findings_0 : decode cX8_findings 0 = .ok (.iload_n 1, 1) := by decide +kernel
theorem dX8_findings_1 : decode cX8_findings 1 = .ok (.iconst 1, 1) := by decide +kernel
theorem dX8_findings_2 : decode cX8_findings 2 = .ok (.iconst 5, 1) := by decide +kernel
theorem dX8_findings_3 : decode cX8_findings 3 = .ok (.invokestatic 66, 3) := by decide +kernel
theorem dX8_findings_6 : decode cX8_findings 6 = .ok (.ifCond .eq 12, 3) := by decide +kernel
theorem dX8_findings_9 : decode cX8_findings 9 = .ok (.aload_n 0, 1) := by decide +kernel
theorem dX8_findings_10 : decode cX8_findings 10 = .ok (.getfield 22, 3) := by decide +kernel
theorem dX8_findings_13 : decode cX8_findings 13 = .ok (.iload_n 1, 1) := by decide +kernel
theorem dX8_findings_14 : decode cX8_findings 14 = .ok (.iaload, 1) := by decide +kernel
theorem dX8_findings_15 : decode cX8_findings 15 = .ok (.goto 4, 3) := by decide +kernel
theorem dX8_findings_18 : decode cX8_findings 18 = .ok (.iconst (-1), 1) := by decide +kernel
theorem dX8_findings_19 : decode cX8_findings 19 = .ok (.ireturn, 1) := by decide +kernel
theorem dX8_digest_0 : decode cX8_digest 0 = .ok (.ldc2_w 260, 3) := by decide +kernel
theorem dX8_digest_3 : decode cX8_digest 3 = .ok (.lstore_n 1, 1) := by decide +kernel
theorem dX8_digest_4 : decode cX8_digest 4 = .ok (.iconst 0, 1) := by decide +kernel
theorem dX8_digest_5 : decode cX8_digest 5 = .ok (.istore_n 3, 1) := by decide +kernel
theorem dX8_digest_6 : decode cX8_digest 6 = .ok (.iload_n 3, 1) := by decide +kernel
theorem dX8_digest_7 : decode cX8_digest 7 = .ok (.bipush 13, 2) := by decide +kernel
theorem dX8_digest_9 : decode cX8_digest 9 = .ok (.if_icmp .ge 22, 3) := by decide +kernel
theorem dX8_digest_12 : decode cX8_digest 12 = .ok (.ldc2_w 262, 3) := by decide +kernel
theorem dX8_digest_15 : decode cX8_digest 15 = .ok (.lload_n 1, 1) := by decide +kernel
theorem dX8_digest_16 : decode cX8_digest 16 = .ok (.lmul, 1) := by decide +kernel
theorem dX8_digest_17 : decode cX8_digest 17 = .ok (.aload_n 0, 1) := by decide +kernel
theorem dX8_digest_18 : decode cX8_digest 18 = .ok (.iload_n 3, 1) := by decide +kernel
theorem dX8_digest_19 : decode cX8_digest 19 = .ok (.invokevirtual 264, 3) := by decide +kernel
theorem dX8_digest_22 : decode cX8_digest 22 = .ok (.i2l, 1) := by decide +kernel
theorem dX8_digest_23 : decode cX8_digest 23 = .ok (.ladd, 1) := by decide +kernel
theorem dX8_digest_24 : decode cX8_digest 24 = .ok (.lstore_n 1, 1) := by decide +kernel
theorem dX8_digest_25 : decode cX8_digest 25 = .ok (.iinc 3 1, 3) := by decide +kernel
theorem dX8_digest_28 : decode cX8_digest 28 = .ok (.goto (-22), 3) := by decide +kernel
theorem dX8_digest_31 : decode cX8_digest 31 = .ok (.iconst 0, 1) := by decide +kernel
theorem dX8_digest_32 : decode cX8_digest 32 = .ok (.istore_n 3, 1) := by decide +kernel
theorem dX8_digest_33 : decode cX8_digest 33 = .ok (.iload_n 3, 1) := by decide +kernel
theorem dX8_digest_34 : decode cX8_digest 34 = .ok (.aload_n 0, 1) := by decide +kernel
theorem dX8_digest_35 : decode cX8_digest 35 = .ok (.getfield 70, 3) := by decide +kernel
theorem dX8_digest_38 : decode cX8_digest 38 = .ok (.if_icmp .ge 23, 3) := by decide +kernel
theorem dX8_digest_41 : decode cX8_digest 41 = .ok (.ldc2_w 262, 3) := by decide +kernel
theorem dX8_digest_44 : decode cX8_digest 44 = .ok (.lload_n 1, 1) := by decide +kernel
theorem dX8_digest_45 : decode cX8_digest 45 = .ok (.lmul, 1) := by decide +kernel
theorem dX8_digest_46 : decode cX8_digest 46 = .ok (.aload_n 0, 1) := by decide +kernel
theorem dX8_digest_47 : decode cX8_digest 47 = .ok (.getfield 38, 3) := by decide +kernel
theorem dX8_digest_50 : decode cX8_digest 50 = .ok (.iload_n 3, 1) := by decide +kernel
theorem dX8_digest_51 : decode cX8_digest 51 = .ok (.iaload, 1) := by decide +kernel
theorem dX8_digest_52 : decode cX8_digest 52 = .ok (.i2l, 1) := by decide +kernel
theorem dX8_digest_53 : decode cX8_digest 53 = .ok (.ladd, 1) := by decide +kernel
theorem dX8_digest_54 : decode cX8_digest 54 = .ok (.lstore_n 1, 1) := by decide +kernel
theorem dX8_digest_55 : decode cX8_digest 55 = .ok (.iinc 3 1, 3) := by decide +kernel
theorem dX8_digest_58 : decode cX8_digest 58 = .ok (.goto (-25), 3) := by decide +kernel
theorem dX8_digest_61 : decode cX8_digest 61 = .ok (.iconst 0, 1) := by decide +kernel
theorem dX8_digest_62 : decode cX8_digest 62 = .ok (.istore_n 3, 1) := by decide +kernel
theorem dX8_digest_63 : decode cX8_digest 63 = .ok (.iload_n 3, 1) := by decide +kernel
theorem dX8_digest_64 : decode cX8_digest 64 = .ok (.aload_n 0, 1) := by decide +kernel
theorem dX8_digest_65 : decode cX8_digest 65 = .ok (.getfield 63, 3) := by decide +kernel
theorem dX8_digest_68 : decode cX8_digest 68 = .ok (.if_icmp .ge 39, 3) := by decide +kernel
theorem dX8_digest_71 : decode cX8_digest 71 = .ok (.iconst 0, 1) := by decide +kernel
theorem dX8_digest_72 : decode cX8_digest 72 = .ok (.istore 4, 2) := by decide +kernel
theorem dX8_digest_74 : decode cX8_digest 74 = .ok (.iload 4, 2) := by decide +kernel
theorem dX8_digest_76 : decode cX8_digest 76 = .ok (.iconst 4, 1) := by decide +kernel
theorem dX8_digest_77 : decode cX8_digest 77 = .ok (.if_icmp .ge 24, 3) := by decide +kernel
theorem dX8_digest_80 : decode cX8_digest 80 = .ok (.ldc2_w 262, 3) := by decide +kernel
theorem dX8_digest_83 : decode cX8_digest 83 = .ok (.lload_n 1, 1) := by decide +kernel
theorem dX8_digest_84 : decode cX8_digest 84 = .ok (.lmul, 1) := by decide +kernel
theorem dX8_digest_85 : decode cX8_digest 85 = .ok (.aload_n 0, 1) := by decide +kernel
theorem dX8_digest_86 : decode cX8_digest 86 = .ok (.iload_n 3, 1) := by decide +kernel
theorem dX8_digest_87 : decode cX8_digest 87 = .ok (.iload 4, 2) := by decide +kernel
theorem dX8_digest_89 : decode cX8_digest 89 = .ok (.invokevirtual 137, 3) := by decide +kernel
theorem dX8_digest_92 : decode cX8_digest 92 = .ok (.i2l, 1) := by decide +kernel
theorem dX8_digest_93 : decode cX8_digest 93 = .ok (.ladd, 1) := by decide +kernel
theorem dX8_digest_94 : decode cX8_digest 94 = .ok (.lstore_n 1, 1) := by decide +kernel
theorem dX8_digest_95 : decode cX8_digest 95 = .ok (.iinc 4 1, 3) := by decide +kernel
theorem dX8_digest_98 : decode cX8_digest 98 = .ok (.goto (-24), 3) := by decide +kernel
theorem dX8_digest_101 : decode cX8_digest 101 = .ok (.iinc 3 1, 3) := by decide +kernel
theorem dX8_digest_104 : decode cX8_digest 104 = .ok (.goto (-41), 3) := by decide +kernel
theorem dX8_digest_107 : decode cX8_digest 107 = .ok (.iconst 0, 1) := by decide +kernel
theorem dX8_digest_108 : decode cX8_digest 108 = .ok (.istore_n 3, 1) := by decide +kernel
theorem dX8_digest_109 : decode cX8_digest 109 = .ok (.iload_n 3, 1) := by decide +kernel
theorem dX8_digest_110 : decode cX8_digest 110 = .ok (.iconst 3, 1) := by decide +kernel
theorem dX8_digest_111 : decode cX8_digest 111 = .ok (.if_icmp .ge 23, 3) := by decide +kernel
theorem dX8_digest_114 : decode cX8_digest 114 = .ok (.ldc2_w 262, 3) := by decide +kernel
theorem dX8_digest_117 : decode cX8_digest 117 = .ok (.lload_n 1, 1) := by decide +kernel
theorem dX8_digest_118 : decode cX8_digest 118 = .ok (.lmul, 1) := by decide +kernel
theorem dX8_digest_119 : decode cX8_digest 119 = .ok (.aload_n 0, 1) := by decide +kernel
theorem dX8_digest_120 : decode cX8_digest 120 = .ok (.getfield 53, 3) := by decide +kernel
theorem dX8_digest_123 : decode cX8_digest 123 = .ok (.iload_n 3, 1) := by decide +kernel
theorem dX8_digest_124 : decode cX8_digest 124 = .ok (.iaload, 1) := by decide +kernel
theorem dX8_digest_125 : decode cX8_digest 125 = .ok (.i2l, 1) := by decide +kernel
theorem dX8_digest_126 : decode cX8_digest 126 = .ok (.ladd, 1) := by decide +kernel
theorem dX8_digest_127 : decode cX8_digest 127 = .ok (.lstore_n 1, 1) := by decide +kernel
theorem dX8_digest_128 : decode cX8_digest 128 = .ok (.iinc 3 1, 3) := by decide +kernel
theorem dX8_digest_131 : decode cX8_digest 131 = .ok (.goto (-22), 3) := by decide +kernel
theorem dX8_digest_134 : decode cX8_digest 134 = .ok (.iconst 0, 1) := by decide +kernel
theorem dX8_digest_135 : decode cX8_digest 135 = .ok (.istore_n 3, 1) := by decide +kernel
theorem dX8_digest_136 : decode cX8_digest 136 = .ok (.iload_n 3, 1) := by decide +kernel
theorem dX8_digest_137 : decode cX8_digest 137 = .ok (.bipush 6, 2) := by decide +kernel
theorem dX8_digest_139 : decode cX8_digest 139 = .ok (.if_icmp .ge 63, 3) := by decide +kernel
theorem dX8_digest_142 : decode cX8_digest 142 = .ok (.ldc2_w 262, 3) := by decide +kernel
theorem dX8_digest_145 : decode cX8_digest 145 = .ok (.lload_n 1, 1) := by decide +kernel
theorem dX8_digest_146 : decode cX8_digest 146 = .ok (.lmul, 1) := by decide +kernel
theorem dX8_digest_147 : decode cX8_digest 147 = .ok (.aload_n 0, 1) := by decide +kernel
theorem dX8_digest_148 : decode cX8_digest 148 = .ok (.getfield 7, 3) := by decide +kernel
theorem dX8_digest_151 : decode cX8_digest 151 = .ok (.iload_n 3, 1) := by decide +kernel
theorem dX8_digest_152 : decode cX8_digest 152 = .ok (.iaload, 1) := by decide +kernel
theorem dX8_digest_153 : decode cX8_digest 153 = .ok (.i2l, 1) := by decide +kernel
theorem dX8_digest_154 : decode cX8_digest 154 = .ok (.ladd, 1) := by decide +kernel
theorem dX8_digest_155 : decode cX8_digest 155 = .ok (.lstore_n 1, 1) := by decide +kernel
theorem dX8_digest_156 : decode cX8_digest 156 = .ok (.iconst 0, 1) := by decide +kernel
theorem dX8_digest_157 : decode cX8_digest 157 = .ok (.istore 4, 2) := by decide +kernel
theorem dX8_digest_159 : decode cX8_digest 159 = .ok (.iload 4, 2) := by decide +kernel
theorem dX8_digest_161 : decode cX8_digest 161 = .ok (.aload_n 0, 1) := by decide +kernel
theorem dX8_digest_162 : decode cX8_digest 162 = .ok (.getfield 7, 3) := by decide +kernel
theorem dX8_digest_165 : decode cX8_digest 165 = .ok (.iload_n 3, 1) := by decide +kernel
theorem dX8_digest_166 : decode cX8_digest 166 = .ok (.iaload, 1) := by decide +kernel
theorem dX8_digest_167 : decode cX8_digest 167 = .ok (.if_icmp .ge 29, 3) := by decide +kernel
theorem dX8_digest_170 : decode cX8_digest 170 = .ok (.ldc2_w 262, 3) := by decide +kernel
theorem dX8_digest_173 : decode cX8_digest 173 = .ok (.lload_n 1, 1) := by decide +kernel
theorem dX8_digest_174 : decode cX8_digest 174 = .ok (.lmul, 1) := by decide +kernel
theorem dX8_digest_175 : decode cX8_digest 175 = .ok (.aload_n 0, 1) := by decide +kernel
theorem dX8_digest_176 : decode cX8_digest 176 = .ok (.getfield 13, 3) := by decide +kernel
theorem dX8_digest_179 : decode cX8_digest 179 = .ok (.bipush 40, 2) := by decide +kernel
theorem dX8_digest_181 : decode cX8_digest 181 = .ok (.iload_n 3, 1) := by decide +kernel
theorem dX8_digest_182 : decode cX8_digest 182 = .ok (.imul, 1) := by decide +kernel
theorem dX8_digest_183 : decode cX8_digest 183 = .ok (.iload 4, 2) := by decide +kernel
theorem dX8_digest_185 : decode cX8_digest 185 = .ok (.iadd, 1) := by decide +kernel
theorem dX8_digest_186 : decode cX8_digest 186 = .ok (.iaload, 1) := by decide +kernel
theorem dX8_digest_187 : decode cX8_digest 187 = .ok (.i2l, 1) := by decide +kernel
theorem dX8_digest_188 : decode cX8_digest 188 = .ok (.ladd, 1) := by decide +kernel
theorem dX8_digest_189 : decode cX8_digest 189 = .ok (.lstore_n 1, 1) := by decide +kernel
theorem dX8_digest_190 : decode cX8_digest 190 = .ok (.iinc 4 1, 3) := by decide +kernel
theorem dX8_digest_193 : decode cX8_digest 193 = .ok (.goto (-34), 3) := by decide +kernel
theorem dX8_digest_196 : decode cX8_digest 196 = .ok (.iinc 3 1, 3) := by decide +kernel
theorem dX8_digest_199 : decode cX8_digest 199 = .ok (.goto (-63), 3) := by decide +kernel
theorem dX8_digest_202 : decode cX8_digest 202 = .ok (.iconst 0, 1) := by decide +kernel
theorem dX8_digest_203 : decode cX8_digest 203 = .ok (.istore_n 3, 1) := by decide +kernel
theorem dX8_digest_204 : decode cX8_digest 204 = .ok (.iload_n 3, 1) := by decide +kernel
theorem dX8_digest_205 : decode cX8_digest 205 = .ok (.iconst 4, 1) := by decide +kernel
theorem dX8_digest_206 : decode cX8_digest 206 = .ok (.if_icmp .ge 63, 3) := by decide +kernel
theorem dX8_digest_209 : decode cX8_digest 209 = .ok (.ldc2_w 262, 3) := by decide +kernel
theorem dX8_digest_212 : decode cX8_digest 212 = .ok (.lload_n 1, 1) := by decide +kernel
theorem dX8_digest_213 : decode cX8_digest 213 = .ok (.lmul, 1) := by decide +kernel
theorem dX8_digest_214 : decode cX8_digest 214 = .ok (.aload_n 0, 1) := by decide +kernel
theorem dX8_digest_215 : decode cX8_digest 215 = .ok (.getfield 16, 3) := by decide +kernel
theorem dX8_digest_218 : decode cX8_digest 218 = .ok (.iload_n 3, 1) := by decide +kernel
theorem dX8_digest_219 : decode cX8_digest 219 = .ok (.iaload, 1) := by decide +kernel
theorem dX8_digest_220 : decode cX8_digest 220 = .ok (.i2l, 1) := by decide +kernel
theorem dX8_digest_221 : decode cX8_digest 221 = .ok (.ladd, 1) := by decide +kernel
theorem dX8_digest_222 : decode cX8_digest 222 = .ok (.lstore_n 1, 1) := by decide +kernel
theorem dX8_digest_223 : decode cX8_digest 223 = .ok (.iconst 0, 1) := by decide +kernel
theorem dX8_digest_224 : decode cX8_digest 224 = .ok (.istore 4, 2) := by decide +kernel
theorem dX8_digest_226 : decode cX8_digest 226 = .ok (.iload 4, 2) := by decide +kernel
theorem dX8_digest_228 : decode cX8_digest 228 = .ok (.aload_n 0, 1) := by decide +kernel
theorem dX8_digest_229 : decode cX8_digest 229 = .ok (.getfield 16, 3) := by decide +kernel
theorem dX8_digest_232 : decode cX8_digest 232 = .ok (.iload_n 3, 1) := by decide +kernel
theorem dX8_digest_233 : decode cX8_digest 233 = .ok (.iaload, 1) := by decide +kernel
theorem dX8_digest_234 : decode cX8_digest 234 = .ok (.if_icmp .ge 29, 3) := by decide +kernel
theorem dX8_digest_237 : decode cX8_digest 237 = .ok (.ldc2_w 262, 3) := by decide +kernel
theorem dX8_digest_240 : decode cX8_digest 240 = .ok (.lload_n 1, 1) := by decide +kernel
theorem dX8_digest_241 : decode cX8_digest 241 = .ok (.lmul, 1) := by decide +kernel
theorem dX8_digest_242 : decode cX8_digest 242 = .ok (.aload_n 0, 1) := by decide +kernel
theorem dX8_digest_243 : decode cX8_digest 243 = .ok (.getfield 19, 3) := by decide +kernel
theorem dX8_digest_246 : decode cX8_digest 246 = .ok (.bipush 60, 2) := by decide +kernel
theorem dX8_digest_248 : decode cX8_digest 248 = .ok (.iload_n 3, 1) := by decide +kernel
theorem dX8_digest_249 : decode cX8_digest 249 = .ok (.imul, 1) := by decide +kernel
theorem dX8_digest_250 : decode cX8_digest 250 = .ok (.iload 4, 2) := by decide +kernel
theorem dX8_digest_252 : decode cX8_digest 252 = .ok (.iadd, 1) := by decide +kernel
theorem dX8_digest_253 : decode cX8_digest 253 = .ok (.iaload, 1) := by decide +kernel
theorem dX8_digest_254 : decode cX8_digest 254 = .ok (.i2l, 1) := by decide +kernel
theorem dX8_digest_255 : decode cX8_digest 255 = .ok (.ladd, 1) := by decide +kernel
theorem dX8_digest_256 : decode cX8_digest 256 = .ok (.lstore_n 1, 1) := by decide +kernel
theorem dX8_digest_257 : decode cX8_digest 257 = .ok (.iinc 4 1, 3) := by decide +kernel
theorem dX8_digest_260 : decode cX8_digest 260 = .ok (.goto (-34), 3) := by decide +kernel
theorem dX8_digest_263 : decode cX8_digest 263 = .ok (.iinc 3 1, 3) := by decide +kernel
theorem dX8_digest_266 : decode cX8_digest 266 = .ok (.goto (-62), 3) := by decide +kernel
theorem dX8_digest_269 : decode cX8_digest 269 = .ok (.lload_n 1, 1) := by decide +kernel
theorem dX8_digest_270 : decode cX8_digest 270 = .ok (.lreturn, 1) := by decide +kernel
