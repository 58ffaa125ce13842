theorem dX7_init_0 : decode cX7_init 0 = .ok (.aload_n 0, 1) := by decide +kernel
theorem dX7_init_1 : decode cX7_init 1 = .ok (.invokespecial 3, 3) := by decide +kernel
theorem dX7_init_4 : decode cX7_init 4 = .ok (.aload_n 0, 1) := by decide +kernel
theorem dX7_init_5 : decode cX7_init 5 = .ok (.bipush 6, 2) := by decide +kernel
theorem dX7_init_7 : decode cX7_init 7 = .ok (.bipush 40, 2) := by decide +kernel
theorem dX7_init_9 : decode cX7_init 9 = .ok (.invokestatic 9, 3) := by decide +kernel
theorem dX7_init_12 : decode cX7_init 12 = .ok (.putfield 13, 3) := by decide +kernel
theorem dX7_init_15 : decode cX7_init 15 = .ok (.aload_n 0, 1) := by decide +kernel
theorem dX7_init_16 : decode cX7_init 16 = .ok (.iconst 4, 1) := by decide +kernel
theorem dX7_init_17 : decode cX7_init 17 = .ok (.bipush 60, 2) := by decide +kernel
theorem dX7_init_19 : decode cX7_init 19 = .ok (.invokestatic 9, 3) := by decide +kernel
theorem dX7_init_22 : decode cX7_init 22 = .ok (.putfield 17, 3) := by decide +kernel
theorem dX7_init_25 : decode cX7_init 25 = .ok (.aload_n 0, 1) := by decide +kernel
theorem dX7_init_26 : decode cX7_init 26 = .ok (.new 20, 3) := by decide +kernel
theorem dX7_init_29 : decode cX7_init 29 = .ok (.dup, 1) := by decide +kernel
theorem dX7_init_30 : decode cX7_init 30 = .ok (.invokespecial 22, 3) := by decide +kernel
theorem dX7_init_33 : decode cX7_init 33 = .ok (.putfield 23, 3) := by decide +kernel
theorem dX7_init_36 : decode cX7_init 36 = .ok (.aload_n 0, 1) := by decide +kernel
theorem dX7_init_37 : decode cX7_init 37 = .ok (.new 27, 3) := by decide +kernel
theorem dX7_init_40 : decode cX7_init 40 = .ok (.dup, 1) := by decide +kernel
theorem dX7_init_41 : decode cX7_init 41 = .ok (.invokespecial 29, 3) := by decide +kernel
theorem dX7_init_44 : decode cX7_init 44 = .ok (.putfield 30, 3) := by decide +kernel
theorem dX7_init_47 : decode cX7_init 47 = .ok (.aload_n 0, 1) := by decide +kernel
theorem dX7_init_48 : decode cX7_init 48 = .ok (.getfield 30, 3) := by decide +kernel
theorem dX7_init_51 : decode cX7_init 51 = .ok (.iconst 0, 1) := by decide +kernel
theorem dX7_init_52 : decode cX7_init 52 = .ok (.putfield 34, 3) := by decide +kernel
theorem dX7_init_55 : decode cX7_init 55 = .ok (.aload_n 0, 1) := by decide +kernel
theorem dX7_init_56 : decode cX7_init 56 = .ok (.iconst 3, 1) := by decide +kernel
theorem dX7_init_57 : decode cX7_init 57 = .ok (.anewarray 27, 3) := by decide +kernel
theorem dX7_init_60 : decode cX7_init 60 = .ok (.putfield 38, 3) := by decide +kernel
theorem dX7_init_63 : decode cX7_init 63 = .ok (.iconst 0, 1) := by decide +kernel
theorem dX7_init_64 : decode cX7_init 64 = .ok (.istore_n 1, 1) := by decide +kernel
theorem dX7_init_65 : decode cX7_init 65 = .ok (.iload_n 1, 1) := by decide +kernel
theorem dX7_init_66 : decode cX7_init 66 = .ok (.aload_n 0, 1) := by decide +kernel
theorem dX7_init_67 : decode cX7_init 67 = .ok (.getfield 38, 3) := by decide +kernel
theorem dX7_init_70 : decode cX7_init 70 = .ok (.arraylength, 1) := by decide +kernel
theorem dX7_init_71 : decode cX7_init 71 = .ok (.if_icmp .ge 22, 3) := by decide +kernel
theorem dX7_init_74 : decode cX7_init 74 = .ok (.aload_n 0, 1) := by decide +kernel
theorem dX7_init_75 : decode cX7_init 75 = .ok (.getfield 38, 3) := by decide +kernel
theorem dX7_init_78 : decode cX7_init 78 = .ok (.iload_n 1, 1) := by decide +kernel
theorem dX7_init_79 : decode cX7_init 79 = .ok (.new 27, 3) := by decide +kernel
theorem dX7_init_82 : decode cX7_init 82 = .ok (.dup, 1) := by decide +kernel
theorem dX7_init_83 : decode cX7_init 83 = .ok (.invokespecial 29, 3) := by decide +kernel
theorem dX7_init_86 : decode cX7_init 86 = .ok (.aastore, 1) := by decide +kernel
theorem dX7_init_87 : decode cX7_init 87 = .ok (.iinc 1 1, 3) := by decide +kernel
theorem dX7_init_90 : decode cX7_init 90 = .ok (.goto (-25), 3) := by decide +kernel
theorem dX7_init_93 : decode cX7_init 93 = .ok (.aload_n 0, 1) := by decide +kernel
theorem dX7_init_94 : decode cX7_init 94 = .ok (.new 42, 3) := by decide +kernel
theorem dX7_init_97 : decode cX7_init 97 = .ok (.dup, 1) := by decide +kernel
theorem dX7_init_98 : decode cX7_init 98 = .ok (.invokespecial 44, 3) := by decide +kernel
theorem dX7_init_101 : decode cX7_init 101 = .ok (.putfield 45, 3) := by decide +kernel
theorem dX7_init_104 : decode cX7_init 104 = .ok (.aload_n 0, 1) := by decide +kernel
theorem dX7_init_105 : decode cX7_init 105 = .ok (.bipush 6, 2) := by decide +kernel
theorem dX7_init_107 : decode cX7_init 107 = .ok (.newarray .int, 2) := by decide +kernel
theorem dX7_init_109 : decode cX7_init 109 = .ok (.putfield 49, 3) := by decide +kernel
theorem dX7_init_112 : decode cX7_init 112 = .ok (.aload_n 0, 1) := by decide +kernel
theorem dX7_init_113 : decode cX7_init 113 = .ok (.bipush 7, 2) := by decide +kernel
theorem dX7_init_115 : decode cX7_init 115 = .ok (.newarray .long, 2) := by decide +kernel
theorem dX7_init_117 : decode cX7_init 117 = .ok (.putfield 53, 3) := by decide +kernel
theorem dX7_init_120 : decode cX7_init 120 = .ok (.aload_n 0, 1) := by decide +kernel
theorem dX7_init_121 : decode cX7_init 121 = .ok (.bipush 6, 2) := by decide +kernel
theorem dX7_init_123 : decode cX7_init 123 = .ok (.newarray .int, 2) := by decide +kernel
theorem dX7_init_125 : decode cX7_init 125 = .ok (.putfield 57, 3) := by decide +kernel
theorem dX7_init_128 : decode cX7_init 128 = .ok (.aload_n 0, 1) := by decide +kernel
theorem dX7_init_129 : decode cX7_init 129 = .ok (.lconst 1, 1) := by decide +kernel
theorem dX7_init_130 : decode cX7_init 130 = .ok (.putfield 60, 3) := by decide +kernel
theorem dX7_init_133 : decode cX7_init 133 = .ok (.return_, 1) := by decide +kernel
theorem dX7_row_0 : decode cX7_row 0 = .ok (.aload_n 0, 1) := by decide +kernel
theorem dX7_row_1 : decode cX7_row 1 = .ok (.aload_n 0, 1) := by decide +kernel
theorem dX7_row_2 : decode cX7_row 2 = .ok (.getfield 13, 3) := by decide +kernel
theorem dX7_row_5 : decode cX7_row 5 = .ok (.iload_n 1, 1) := by decide +kernel
theorem dX7_row_6 : decode cX7_row 6 = .ok (.invokestatic 64, 3) := by decide +kernel
theorem dX7_row_9 : decode cX7_row 9 = .ok (.iload_n 2, 1) := by decide +kernel
theorem dX7_row_10 : decode cX7_row 10 = .ok (.bipush 40, 2) := by decide +kernel
theorem dX7_row_12 : decode cX7_row 12 = .ok (.iconst 0, 1) := by decide +kernel
theorem dX7_row_13 : decode cX7_row 13 = .ok (.invokevirtual 68, 3) := by decide +kernel
theorem dX7_row_16 : decode cX7_row 16 = .ok (.ireturn, 1) := by decide +kernel
theorem dX7_lay_0 : decode cX7_lay 0 = .ok (.aload_n 0, 1) := by decide +kernel
theorem dX7_lay_1 : decode cX7_lay 1 = .ok (.getfield 13, 3) := by decide +kernel
theorem dX7_lay_4 : decode cX7_lay 4 = .ok (.iload_n 1, 1) := by decide +kernel
theorem dX7_lay_5 : decode cX7_lay 5 = .ok (.invokestatic 64, 3) := by decide +kernel
theorem dX7_lay_8 : decode cX7_lay 8 = .ok (.astore 4, 2) := by decide +kernel
theorem dX7_lay_10 : decode cX7_lay 10 = .ok (.aload 4, 2) := by decide +kernel
theorem dX7_lay_12 : decode cX7_lay 12 = .ok (.ifnonnull 5, 3) := by decide +kernel
theorem dX7_lay_15 : decode cX7_lay 15 = .ok (.iconst (-1), 1) := by decide +kernel
theorem dX7_lay_16 : decode cX7_lay 16 = .ok (.ireturn, 1) := by decide +kernel
theorem dX7_lay_17 : decode cX7_lay 17 = .ok (.aload_n 0, 1) := by decide +kernel
theorem dX7_lay_18 : decode cX7_lay 18 = .ok (.aload 4, 2) := by decide +kernel
theorem dX7_lay_20 : decode cX7_lay 20 = .ok (.iload_n 2, 1) := by decide +kernel
theorem dX7_lay_21 : decode cX7_lay 21 = .ok (.invokevirtual 72, 3) := by decide +kernel
theorem dX7_lay_24 : decode cX7_lay 24 = .ok (.istore 5, 2) := by decide +kernel
theorem dX7_lay_26 : decode cX7_lay 26 = .ok (.iload 5, 2) := by decide +kernel
theorem dX7_lay_28 : decode cX7_lay 28 = .ok (.ifCond .eq 6, 3) := by decide +kernel
theorem dX7_lay_31 : decode cX7_lay 31 = .ok (.iload 5, 2) := by decide +kernel
theorem dX7_lay_33 : decode cX7_lay 33 = .ok (.ireturn, 1) := by decide +kernel
theorem dX7_lay_34 : decode cX7_lay 34 = .ok (.aload_n 0, 1) := by decide +kernel
theorem dX7_lay_35 : decode cX7_lay 35 = .ok (.aload 4, 2) := by decide +kernel
theorem dX7_lay_37 : decode cX7_lay 37 = .ok (.iload_n 2, 1) := by decide +kernel
theorem dX7_lay_38 : decode cX7_lay 38 = .ok (.invokevirtual 76, 3) := by decide +kernel
theorem dX7_lay_41 : decode cX7_lay 41 = .ok (.putfield 82, 3) := by decide +kernel
theorem dX7_lay_44 : decode cX7_lay 44 = .ok (.aload 4, 2) := by decide +kernel
theorem dX7_lay_46 : decode cX7_lay 46 = .ok (.iload_n 2, 1) := by decide +kernel
theorem dX7_lay_47 : decode cX7_lay 47 = .ok (.iload_n 3, 1) := by decide +kernel
theorem dX7_lay_48 : decode cX7_lay 48 = .ok (.invokevirtual 85, 3) := by decide +kernel
theorem dX7_lay_51 : decode cX7_lay 51 = .ok (.iconst 1, 1) := by decide +kernel
theorem dX7_lay_52 : decode cX7_lay 52 = .ok (.ireturn, 1) := by decide +kernel
theorem dX7_at_0 : decode cX7_at 0 = .ok (.aload_n 0, 1) := by decide +kernel
theorem dX7_at_1 : decode cX7_at 1 = .ok (.getfield 13, 3) := by decide +kernel
theorem dX7_at_4 : decode cX7_at 4 = .ok (.iload_n 1, 1) := by decide +kernel
theorem dX7_at_5 : decode cX7_at 5 = .ok (.invokestatic 64, 3) := by decide +kernel
theorem dX7_at_8 : decode cX7_at 8 = .ok (.astore_n 3, 1) := by decide +kernel
theorem dX7_at_9 : decode cX7_at 9 = .ok (.aload_n 3, 1) := by decide +kernel
theorem dX7_at_10 : decode cX7_at 10 = .ok (.ifnonnull 5, 3) := by decide +kernel
theorem dX7_at_13 : decode cX7_at 13 = .ok (.iconst (-1), 1) := by decide +kernel
theorem dX7_at_14 : decode cX7_at 14 = .ok (.ireturn, 1) := by decide +kernel
theorem dX7_at_15 : decode cX7_at 15 = .ok (.aload_n 0, 1) := by decide +kernel
theorem dX7_at_16 : decode cX7_at 16 = .ok (.aload_n 3, 1) := by decide +kernel
theorem dX7_at_17 : decode cX7_at 17 = .ok (.iload_n 2, 1) := by decide +kernel
theorem dX7_at_18 : decode cX7_at 18 = .ok (.invokevirtual 72, 3) := by decide +kernel
theorem dX7_at_21 : decode cX7_at 21 = .ok (.istore 4, 2) := by decide +kernel
theorem dX7_at_23 : decode cX7_at 23 = .ok (.iload 4, 2) := by decide +kernel
theorem dX7_at_25 : decode cX7_at 25 = .ok (.ifCond .eq 6, 3) := by decide +kernel
theorem dX7_at_28 : decode cX7_at 28 = .ok (.iload 4, 2) := by decide +kernel
theorem dX7_at_30 : decode cX7_at 30 = .ok (.ireturn, 1) := by decide +kernel
theorem dX7_at_31 : decode cX7_at 31 = .ok (.aload_n 0, 1) := by decide +kernel
theorem dX7_at_32 : decode cX7_at 32 = .ok (.aload_n 3, 1) := by decide +kernel
theorem dX7_at_33 : decode cX7_at 33 = .ok (.iload_n 2, 1) := by decide +kernel
theorem dX7_at_34 : decode cX7_at 34 = .ok (.invokevirtual 76, 3) := by decide +kernel
theorem dX7_at_37 : decode cX7_at 37 = .ok (.putfield 82, 3) := by decide +kernel
theorem dX7_at_40 : decode cX7_at 40 = .ok (.iconst 1, 1) := by decide +kernel
theorem dX7_at_41 : decode cX7_at 41 = .ok (.ireturn, 1) := by decide +kernel
theorem dX7_tear_0 : decode cX7_tear 0 = .ok (.aload_n 0, 1) := by decide +kernel
theorem dX7_tear_1 : decode cX7_tear 1 = .ok (.getfield 13, 3) := by decide +kernel
theorem dX7_tear_4 : decode cX7_tear 4 = .ok (.iload_n 1, 1) := by decide +kernel
theorem dX7_tear_5 : decode cX7_tear 5 = .ok (.invokestatic 64, 3) := by decide +kernel
theorem dX7_tear_8 : decode cX7_tear 8 = .ok (.astore_n 2, 1) := by decide +kernel
theorem dX7_tear_9 : decode cX7_tear 9 = .ok (.aload_n 2, 1) := by decide +kernel
theorem dX7_tear_10 : decode cX7_tear 10 = .ok (.ifnonnull 5, 3) := by decide +kernel
theorem dX7_tear_13 : decode cX7_tear 13 = .ok (.iconst (-1), 1) := by decide +kernel
theorem dX7_tear_14 : decode cX7_tear 14 = .ok (.ireturn, 1) := by decide +kernel
theorem dX7_tear_15 : decode cX7_tear 15 = .ok (.aload_n 2, 1) := by decide +kernel
theorem dX7_tear_16 : decode cX7_tear 16 = .ok (.invokevirtual 89, 3) := by decide +kernel
theorem dX7_tear_19 : decode cX7_tear 19 = .ok (.ifCond .ne 9, 3) := by decide +kernel
theorem dX7_tear_22 : decode cX7_tear 22 = .ok (.aload_n 0, 1) := by decide +kernel
theorem dX7_tear_23 : decode cX7_tear 23 = .ok (.iconst 1, 1) := by decide +kernel
theorem dX7_tear_24 : decode cX7_tear 24 = .ok (.invokevirtual 93, 3) := by decide +kernel
theorem dX7_tear_27 : decode cX7_tear 27 = .ok (.ireturn, 1) := by decide +kernel
theorem dX7_tear_28 : decode cX7_tear 28 = .ok (.aload_n 2, 1) := by decide +kernel
theorem dX7_tear_29 : decode cX7_tear 29 = .ok (.iconst (-1), 1) := by decide +kernel
theorem dX7_tear_30 : decode cX7_tear 30 = .ok (.putfield 96, 3) := by decide +kernel
theorem dX7_tear_33 : decode cX7_tear 33 = .ok (.iconst 1, 1) := by decide +kernel
theorem dX7_tear_34 : decode cX7_tear 34 = .ok (.ireturn, 1) := by decide +kernel
theorem dX7_copy_0 : decode cX7_copy 0 = .ok (.aload_n 0, 1) := by decide +kernel
theorem dX7_copy_1 : decode cX7_copy 1 = .ok (.getfield 13, 3) := by decide +kernel
theorem dX7_copy_4 : decode cX7_copy 4 = .ok (.iload_n 1, 1) := by decide +kernel
theorem dX7_copy_5 : decode cX7_copy 5 = .ok (.invokestatic 64, 3) := by decide +kernel
theorem dX7_copy_8 : decode cX7_copy 8 = .ok (.astore 6, 2) := by decide +kernel
theorem dX7_copy_10 : decode cX7_copy 10 = .ok (.aload_n 0, 1) := by decide +kernel
theorem dX7_copy_11 : decode cX7_copy 11 = .ok (.getfield 13, 3) := by decide +kernel
theorem dX7_copy_14 : decode cX7_copy 14 = .ok (.iload_n 3, 1) := by decide +kernel
theorem dX7_copy_15 : decode cX7_copy 15 = .ok (.invokestatic 64, 3) := by decide +kernel
theorem dX7_copy_18 : decode cX7_copy 18 = .ok (.astore 7, 2) := by decide +kernel
theorem dX7_copy_20 : decode cX7_copy 20 = .ok (.aload 6, 2) := by decide +kernel
theorem dX7_copy_22 : decode cX7_copy 22 = .ok (.ifnull 8, 3) := by decide +kernel
theorem dX7_copy_25 : decode cX7_copy 25 = .ok (.aload 7, 2) := by decide +kernel
theorem dX7_copy_27 : decode cX7_copy 27 = .ok (.ifnonnull 5, 3) := by decide +kernel
theorem dX7_copy_30 : decode cX7_copy 30 = .ok (.iconst (-1), 1) := by decide +kernel
theorem dX7_copy_31 : decode cX7_copy 31 = .ok (.ireturn, 1) := by decide +kernel
theorem dX7_copy_32 : decode cX7_copy 32 = .ok (.iload 5, 2) := by decide +kernel
theorem dX7_copy_34 : decode cX7_copy 34 = .ok (.ifCond .ge 9, 3) := by decide +kernel
theorem dX7_copy_37 : decode cX7_copy 37 = .ok (.aload_n 0, 1) := by decide +kernel
theorem dX7_copy_38 : decode cX7_copy 38 = .ok (.iconst 5, 1) := by decide +kernel
theorem dX7_copy_39 : decode cX7_copy 39 = .ok (.invokevirtual 93, 3) := by decide +kernel
theorem dX7_copy_42 : decode cX7_copy 42 = .ok (.ireturn, 1) := by decide +kernel
theorem dX7_copy_43 : decode cX7_copy 43 = .ok (.aload 6, 2) := by decide +kernel
theorem dX7_copy_45 : decode cX7_copy 45 = .ok (.invokevirtual 89, 3) := by decide +kernel
theorem dX7_copy_48 : decode cX7_copy 48 = .ok (.ifCond .eq 11, 3) := by decide +kernel
theorem dX7_copy_51 : decode cX7_copy 51 = .ok (.aload 7, 2) := by decide +kernel
theorem dX7_copy_53 : decode cX7_copy 53 = .ok (.invokevirtual 89, 3) := by decide +kernel
theorem dX7_copy_56 : decode cX7_copy 56 = .ok (.ifCond .ne 9, 3) := by decide +kernel
theorem dX7_copy_59 : decode cX7_copy 59 = .ok (.aload_n 0, 1) := by decide +kernel
theorem dX7_copy_60 : decode cX7_copy 60 = .ok (.iconst 1, 1) := by decide +kernel
theorem dX7_copy_61 : decode cX7_copy 61 = .ok (.invokevirtual 93, 3) := by decide +kernel
theorem dX7_copy_64 : decode cX7_copy 64 = .ok (.ireturn, 1) := by decide +kernel
theorem dX7_copy_65 : decode cX7_copy 65 = .ok (.aload 6, 2) := by decide +kernel
theorem dX7_copy_67 : decode cX7_copy 67 = .ok (.iload_n 2, 1) := by decide +kernel
theorem dX7_copy_68 : decode cX7_copy 68 = .ok (.iload 5, 2) := by decide +kernel
theorem dX7_copy_70 : decode cX7_copy 70 = .ok (.invokevirtual 97, 3) := by decide +kernel
theorem dX7_copy_73 : decode cX7_copy 73 = .ok (.ifCond .eq 15, 3) := by decide +kernel
theorem dX7_copy_76 : decode cX7_copy 76 = .ok (.aload 7, 2) := by decide +kernel
theorem dX7_copy_78 : decode cX7_copy 78 = .ok (.iload 4, 2) := by decide +kernel
theorem dX7_copy_80 : decode cX7_copy 80 = .ok (.iload 5, 2) := by decide +kernel
theorem dX7_copy_82 : decode cX7_copy 82 = .ok (.invokevirtual 97, 3) := by decide +kernel
theorem dX7_copy_85 : decode cX7_copy 85 = .ok (.ifCond .ne 9, 3) := by decide +kernel
theorem dX7_copy_88 : decode cX7_copy 88 = .ok (.aload_n 0, 1) := by decide +kernel
theorem dX7_copy_89 : decode cX7_copy 89 = .ok (.iconst 2, 1) := by decide +kernel
theorem dX7_copy_90 : decode cX7_copy 90 = .ok (.invokevirtual 93, 3) := by decide +kernel
theorem dX7_copy_93 : decode cX7_copy 93 = .ok (.ireturn, 1) := by decide +kernel
theorem dX7_copy_94 : decode cX7_copy 94 = .ok (.aload 6, 2) := by decide +kernel
theorem dX7_copy_96 : decode cX7_copy 96 = .ok (.getfield 101, 3) := by decide +kernel
theorem dX7_copy_99 : decode cX7_copy 99 = .ok (.iload_n 2, 1) := by decide +kernel
theorem dX7_copy_100 : decode cX7_copy 100 = .ok (.aload 7, 2) := by decide +kernel
theorem dX7_copy_102 : decode cX7_copy 102 = .ok (.getfield 101, 3) := by decide +kernel
theorem dX7_copy_105 : decode cX7_copy 105 = .ok (.iload 4, 2) := by decide +kernel
theorem dX7_copy_107 : decode cX7_copy 107 = .ok (.iload 5, 2) := by decide +kernel
theorem dX7_copy_109 : decode cX7_copy 109 = .ok (.invokestatic 104, 3) := by decide +kernel
theorem dX7_copy_112 : decode cX7_copy 112 = .ok (.iconst 1, 1) := by decide +kernel
theorem dX7_copy_113 : decode cX7_copy 113 = .ok (.ireturn, 1) := by decide +kernel
theorem dX7_mean_0 : decode cX7_mean 0 = .ok (.aload_n 0, 1) := by decide +kernel
theorem dX7_mean_1 : decode cX7_mean 1 = .ok (.getfield 13, 3) := by decide +kernel
theorem dX7_mean_4 : decode cX7_mean 4 = .ok (.iload_n 1, 1) := by decide +kernel
theorem dX7_mean_5 : decode cX7_mean 5 = .ok (.invokestatic 64, 3) := by decide +kernel
theorem dX7_mean_8 : decode cX7_mean 8 = .ok (.astore_n 2, 1) := by decide +kernel
theorem dX7_mean_9 : decode cX7_mean 9 = .ok (.aload_n 2, 1) := by decide +kernel
theorem dX7_mean_10 : decode cX7_mean 10 = .ok (.ifnonnull 5, 3) := by decide +kernel
theorem dX7_mean_13 : decode cX7_mean 13 = .ok (.iconst (-1), 1) := by decide +kernel
theorem dX7_mean_14 : decode cX7_mean 14 = .ok (.ireturn, 1) := by decide +kernel
theorem dX7_mean_15 : decode cX7_mean 15 = .ok (.aload_n 2, 1) := by decide +kernel
theorem dX7_mean_16 : decode cX7_mean 16 = .ok (.invokevirtual 89, 3) := by decide +kernel
theorem dX7_mean_19 : decode cX7_mean 19 = .ok (.ifCond .ne 9, 3) := by decide +kernel
theorem dX7_mean_22 : decode cX7_mean 22 = .ok (.aload_n 0, 1) := by decide +kernel
theorem dX7_mean_23 : decode cX7_mean 23 = .ok (.iconst 1, 1) := by decide +kernel
theorem dX7_mean_24 : decode cX7_mean 24 = .ok (.invokevirtual 93, 3) := by decide +kernel
theorem dX7_mean_27 : decode cX7_mean 27 = .ok (.ireturn, 1) := by decide +kernel
theorem dX7_mean_28 : decode cX7_mean 28 = .ok (.aload_n 2, 1) := by decide +kernel
theorem dX7_mean_29 : decode cX7_mean 29 = .ok (.getfield 96, 3) := by decide +kernel
theorem dX7_mean_32 : decode cX7_mean 32 = .ok (.ifCond .ne 9, 3) := by decide +kernel
theorem dX7_mean_35 : decode cX7_mean 35 = .ok (.aload_n 0, 1) := by decide +kernel
theorem dX7_mean_36 : decode cX7_mean 36 = .ok (.iconst 4, 1) := by decide +kernel
theorem dX7_mean_37 : decode cX7_mean 37 = .ok (.invokevirtual 93, 3) := by decide +kernel
theorem dX7_mean_40 : decode cX7_mean 40 = .ok (.ireturn, 1) := by decide +kernel
theorem dX7_mean_41 : decode cX7_mean 41 = .ok (.lconst 0, 1) := by decide +kernel
theorem dX7_mean_42 : decode cX7_mean 42 = .ok (.lstore_n 3, 1) := by decide +kernel
theorem dX7_mean_43 : decode cX7_mean 43 = .ok (.iconst 0, 1) := by decide +kernel
theorem dX7_mean_44 : decode cX7_mean 44 = .ok (.istore 5, 2) := by decide +kernel
theorem dX7_mean_46 : decode cX7_mean 46 = .ok (.iload 5, 2) := by decide +kernel
theorem dX7_mean_48 : decode cX7_mean 48 = .ok (.aload_n 2, 1) := by decide +kernel
theorem dX7_mean_49 : decode cX7_mean 49 = .ok (.getfield 96, 3) := by decide +kernel
theorem dX7_mean_52 : decode cX7_mean 52 = .ok (.if_icmp .ge 19, 3) := by decide +kernel
theorem dX7_mean_55 : decode cX7_mean 55 = .ok (.lload_n 3, 1) := by decide +kernel
theorem dX7_mean_56 : decode cX7_mean 56 = .ok (.aload_n 2, 1) := by decide +kernel
theorem dX7_mean_57 : decode cX7_mean 57 = .ok (.iload 5, 2) := by decide +kernel
theorem dX7_mean_59 : decode cX7_mean 59 = .ok (.invokevirtual 76, 3) := by decide +kernel
theorem dX7_mean_62 : decode cX7_mean 62 = .ok (.i2l, 1) := by decide +kernel
theorem dX7_mean_63 : decode cX7_mean 63 = .ok (.ladd, 1) := by decide +kernel
theorem dX7_mean_64 : decode cX7_mean 64 = .ok (.lstore_n 3, 1) := by decide +kernel
theorem dX7_mean_65 : decode cX7_mean 65 = .ok (.iinc 5 1, 3) := by decide +kernel
theorem dX7_mean_68 : decode cX7_mean 68 = .ok (.goto (-22), 3) := by decide +kernel
theorem dX7_mean_71 : decode cX7_mean 71 = .ok (.aload_n 0, 1) := by decide +kernel
theorem dX7_mean_72 : decode cX7_mean 72 = .ok (.lload_n 3, 1) := by decide +kernel
theorem dX7_mean_73 : decode cX7_mean 73 = .ok (.aload_n 2, 1) := by decide +kernel
theorem dX7_mean_74 : decode cX7_mean 74 = .ok (.getfield 96, 3) := by decide +kernel
theorem dX7_mean_77 : decode cX7_mean 77 = .ok (.i2l, 1) := by decide +kernel
theorem dX7_mean_78 : decode cX7_mean 78 = .ok (.ldiv, 1) := by decide +kernel
theorem dX7_mean_79 : decode cX7_mean 79 = .ok (.l2i, 1) := by decide +kernel
theorem dX7_mean_80 : decode cX7_mean 80 = .ok (.putfield 82, 3) := by decide +kernel
theorem dX7_mean_83 : decode cX7_mean 83 = .ok (.iconst 1, 1) := by decide +kernel
theorem dX7_mean_84 : decode cX7_mean 84 = .ok (.ireturn, 1) := by decide +kernel
theorem dX7_text_0 : decode cX7_text 0 = .ok (.aload_n 0, 1) := by decide +kernel
theorem dX7_text_1 : decode cX7_text 1 = .ok (.aload_n 0, 1) := by decide +kernel
theorem dX7_text_2 : decode cX7_text 2 = .ok (.getfield 17, 3) := by decide +kernel
theorem dX7_text_5 : decode cX7_text 5 = .ok (.iload_n 1, 1) := by decide +kernel
theorem dX7_text_6 : decode cX7_text 6 = .ok (.invokestatic 64, 3) := by decide +kernel
theorem dX7_text_9 : decode cX7_text 9 = .ok (.iload_n 2, 1) := by decide +kernel
theorem dX7_text_10 : decode cX7_text 10 = .ok (.bipush 60, 2) := by decide +kernel
theorem dX7_text_12 : decode cX7_text 12 = .ok (.bipush 32, 2) := by decide +kernel
theorem dX7_text_14 : decode cX7_text 14 = .ok (.invokevirtual 68, 3) := by decide +kernel
theorem dX7_text_17 : decode cX7_text 17 = .ok (.ireturn, 1) := by decide +kernel
theorem dX7_put_0 : decode cX7_put 0 = .ok (.aload_n 0, 1) := by decide +kernel
theorem dX7_put_1 : decode cX7_put 1 = .ok (.getfield 17, 3) := by decide +kernel
theorem dX7_put_4 : decode cX7_put 4 = .ok (.iload_n 1, 1) := by decide +kernel
theorem dX7_put_5 : decode cX7_put 5 = .ok (.invokestatic 64, 3) := by decide +kernel
theorem dX7_put_8 : decode cX7_put 8 = .ok (.astore 4, 2) := by decide +kernel
theorem dX7_put_10 : decode cX7_put 10 = .ok (.aload 4, 2) := by decide +kernel
theorem dX7_put_12 : decode cX7_put 12 = .ok (.ifnonnull 5, 3) := by decide +kernel
theorem dX7_put_15 : decode cX7_put 15 = .ok (.iconst (-1), 1) := by decide +kernel
theorem dX7_put_16 : decode cX7_put 16 = .ok (.ireturn, 1) := by decide +kernel
theorem dX7_put_17 : decode cX7_put 17 = .ok (.aload_n 0, 1) := by decide +kernel
theorem dX7_put_18 : decode cX7_put 18 = .ok (.aload 4, 2) := by decide +kernel
theorem dX7_put_20 : decode cX7_put 20 = .ok (.iload_n 2, 1) := by decide +kernel
theorem dX7_put_21 : decode cX7_put 21 = .ok (.invokevirtual 72, 3) := by decide +kernel
theorem dX7_put_24 : decode cX7_put 24 = .ok (.istore 5, 2) := by decide +kernel
theorem dX7_put_26 : decode cX7_put 26 = .ok (.iload 5, 2) := by decide +kernel
theorem dX7_put_28 : decode cX7_put 28 = .ok (.ifCond .eq 6, 3) := by decide +kernel
theorem dX7_put_31 : decode cX7_put 31 = .ok (.iload 5, 2) := by decide +kernel
theorem dX7_put_33 : decode cX7_put 33 = .ok (.ireturn, 1) := by decide +kernel
theorem dX7_put_34 : decode cX7_put 34 = .ok (.aload 4, 2) := by decide +kernel
theorem dX7_put_36 : decode cX7_put 36 = .ok (.iload_n 2, 1) := by decide +kernel
theorem dX7_put_37 : decode cX7_put 37 = .ok (.invokevirtual 76, 3) := by decide +kernel
theorem dX7_put_40 : decode cX7_put 40 = .ok (.istore 6, 2) := by decide +kernel
theorem dX7_put_42 : decode cX7_put 42 = .ok (.aload 4, 2) := by decide +kernel
theorem dX7_put_44 : decode cX7_put 44 = .ok (.iload_n 2, 1) := by decide +kernel
theorem dX7_put_45 : decode cX7_put 45 = .ok (.iload_n 3, 1) := by decide +kernel
theorem dX7_put_46 : decode cX7_put 46 = .ok (.i2b, 1) := by decide +kernel
theorem dX7_put_47 : decode cX7_put 47 = .ok (.invokevirtual 85, 3) := by decide +kernel
theorem dX7_put_50 : decode cX7_put 50 = .ok (.iload 6, 2) := by decide +kernel
theorem dX7_put_52 : decode cX7_put 52 = .ok (.sipush 1000, 3) := by decide +kernel
theorem dX7_put_55 : decode cX7_put 55 = .ok (.iadd, 1) := by decide +kernel
theorem dX7_put_56 : decode cX7_put 56 = .ok (.ireturn, 1) := by decide +kernel
theorem dX7_fault_0 : decode cX7_fault 0 = .ok (.aload_n 0, 1) := by decide +kernel
theorem dX7_fault_1 : decode cX7_fault 1 = .ok (.getfield 17, 3) := by decide +kernel
theorem dX7_fault_4 : decode cX7_fault 4 = .ok (.iload_n 1, 1) := by decide +kernel
theorem dX7_fault_5 : decode cX7_fault 5 = .ok (.invokestatic 64, 3) := by decide +kernel
theorem dX7_fault_8 : decode cX7_fault 8 = .ok (.astore_n 2, 1) := by decide +kernel
theorem dX7_fault_9 : decode cX7_fault 9 = .ok (.aload_n 2, 1) := by decide +kernel
theorem dX7_fault_10 : decode cX7_fault 10 = .ok (.ifnonnull 5, 3) := by decide +kernel
theorem dX7_fault_13 : decode cX7_fault 13 = .ok (.iconst (-1), 1) := by decide +kernel
theorem dX7_fault_14 : decode cX7_fault 14 = .ok (.ireturn, 1) := by decide +kernel
theorem dX7_fault_15 : decode cX7_fault 15 = .ok (.aload_n 2, 1) := by decide +kernel
theorem dX7_fault_16 : decode cX7_fault 16 = .ok (.invokevirtual 89, 3) := by decide +kernel
theorem dX7_fault_19 : decode cX7_fault 19 = .ok (.ifCond .ne 9, 3) := by decide +kernel
theorem dX7_fault_22 : decode cX7_fault 22 = .ok (.aload_n 0, 1) := by decide +kernel
theorem dX7_fault_23 : decode cX7_fault 23 = .ok (.iconst 1, 1) := by decide +kernel
theorem dX7_fault_24 : decode cX7_fault 24 = .ok (.invokevirtual 93, 3) := by decide +kernel
theorem dX7_fault_27 : decode cX7_fault 27 = .ok (.ireturn, 1) := by decide +kernel
theorem dX7_fault_28 : decode cX7_fault 28 = .ok (.aload_n 2, 1) := by decide +kernel
theorem dX7_fault_29 : decode cX7_fault 29 = .ok (.invokestatic 110, 3) := by decide +kernel
theorem dX7_fault_32 : decode cX7_fault 32 = .ok (.ireturn, 1) := by decide +kernel
theorem dX7_club_0 : decode cX7_club 0 = .ok (.aload_n 0, 1) := by decide +kernel
theorem dX7_club_1 : decode cX7_club 1 = .ok (.getfield 17, 3) := by decide +kernel
theorem dX7_club_4 : decode cX7_club 4 = .ok (.iload_n 1, 1) := by decide +kernel
theorem dX7_club_5 : decode cX7_club 5 = .ok (.invokestatic 64, 3) := by decide +kernel
theorem dX7_club_8 : decode cX7_club 8 = .ok (.astore_n 2, 1) := by decide +kernel
theorem dX7_club_9 : decode cX7_club 9 = .ok (.aload_n 2, 1) := by decide +kernel
theorem dX7_club_10 : decode cX7_club 10 = .ok (.ifnonnull 5, 3) := by decide +kernel
theorem dX7_club_13 : decode cX7_club 13 = .ok (.iconst (-1), 1) := by decide +kernel
theorem dX7_club_14 : decode cX7_club 14 = .ok (.ireturn, 1) := by decide +kernel
theorem dX7_club_15 : decode cX7_club 15 = .ok (.aload_n 2, 1) := by decide +kernel
theorem dX7_club_16 : decode cX7_club 16 = .ok (.invokevirtual 89, 3) := by decide +kernel
theorem dX7_club_19 : decode cX7_club 19 = .ok (.ifCond .ne 9, 3) := by decide +kernel
theorem dX7_club_22 : decode cX7_club 22 = .ok (.aload_n 0, 1) := by decide +kernel
theorem dX7_club_23 : decode cX7_club 23 = .ok (.iconst 1, 1) := by decide +kernel
theorem dX7_club_24 : decode cX7_club 24 = .ok (.invokevirtual 93, 3) := by decide +kernel
theorem dX7_club_27 : decode cX7_club 27 = .ok (.ireturn, 1) := by decide +kernel
theorem dX7_club_28 : decode cX7_club 28 = .ok (.aload_n 2, 1) := by decide +kernel
theorem dX7_club_29 : decode cX7_club 29 = .ok (.invokestatic 110, 3) := by decide +kernel
theorem dX7_club_32 : decode cX7_club 32 = .ok (.bipush (-9), 2) := by decide +kernel
theorem dX7_club_34 : decode cX7_club 34 = .ok (.if_icmp .eq 6, 3) := by decide +kernel
theorem dX7_club_37 : decode cX7_club 37 = .ok (.bipush (-4), 2) := by decide +kernel
theorem dX7_club_39 : decode cX7_club 39 = .ok (.ireturn, 1) := by decide +kernel
theorem dX7_club_40 : decode cX7_club 40 = .ok (.aload_n 2, 1) := by decide +kernel
theorem dX7_club_41 : decode cX7_club 41 = .ok (.aload_n 0, 1) := by decide +kernel
theorem dX7_club_42 : decode cX7_club 42 = .ok (.getfield 23, 3) := by decide +kernel
theorem dX7_club_45 : decode cX7_club 45 = .ok (.invokestatic 116, 3) := by decide +kernel
theorem dX7_club_48 : decode cX7_club 48 = .ok (.aload_n 0, 1) := by decide +kernel
theorem dX7_club_49 : decode cX7_club 49 = .ok (.getfield 23, 3) := by decide +kernel
theorem dX7_club_52 : decode cX7_club 52 = .ok (.invokevirtual 120, 3) := by decide +kernel
theorem dX7_club_55 : decode cX7_club 55 = .ok (.aload_n 0, 1) := by decide +kernel
theorem dX7_club_56 : decode cX7_club 56 = .ok (.getfield 30, 3) := by decide +kernel
theorem dX7_club_59 : decode cX7_club 59 = .ok (.iconst 0, 1) := by decide +kernel
theorem dX7_club_60 : decode cX7_club 60 = .ok (.putfield 34, 3) := by decide +kernel
theorem dX7_club_63 : decode cX7_club 63 = .ok (.iconst 0, 1) := by decide +kernel
theorem dX7_club_64 : decode cX7_club 64 = .ok (.istore_n 3, 1) := by decide +kernel
theorem dX7_club_65 : decode cX7_club 65 = .ok (.iload_n 3, 1) := by decide +kernel
theorem dX7_club_66 : decode cX7_club 66 = .ok (.aload_n 0, 1) := by decide +kernel
theorem dX7_club_67 : decode cX7_club 67 = .ok (.getfield 38, 3) := by decide +kernel
theorem dX7_club_70 : decode cX7_club 70 = .ok (.arraylength, 1) := by decide +kernel
theorem dX7_club_71 : decode cX7_club 71 = .ok (.if_icmp .ge 19, 3) := by decide +kernel
theorem dX7_club_74 : decode cX7_club 74 = .ok (.aload_n 0, 1) := by decide +kernel
theorem dX7_club_75 : decode cX7_club 75 = .ok (.getfield 38, 3) := by decide +kernel
theorem dX7_club_78 : decode cX7_club 78 = .ok (.iload_n 3, 1) := by decide +kernel
theorem dX7_club_79 : decode cX7_club 79 = .ok (.aaload, 1) := by decide +kernel
theorem dX7_club_80 : decode cX7_club 80 = .ok (.iconst (-1), 1) := by decide +kernel
theorem dX7_club_81 : decode cX7_club 81 = .ok (.putfield 34, 3) := by decide +kernel
theorem dX7_club_84 : decode cX7_club 84 = .ok (.iinc 3 1, 3) := by decide +kernel
theorem dX7_club_87 : decode cX7_club 87 = .ok (.goto (-22), 3) := by decide +kernel
theorem dX7_club_90 : decode cX7_club 90 = .ok (.aload_n 0, 1) := by decide +kernel
theorem dX7_club_91 : decode cX7_club 91 = .ok (.getfield 23, 3) := by decide +kernel
theorem dX7_club_94 : decode cX7_club 94 = .ok (.getfield 123, 3) := by decide +kernel
theorem dX7_club_97 : decode cX7_club 97 = .ok (.ireturn, 1) := by decide +kernel
theorem dX7_member_0 : decode cX7_member 0 = .ok (.aload_n 0, 1) := by decide +kernel
theorem dX7_member_1 : decode cX7_member 1 = .ok (.getfield 23, 3) := by decide +kernel
theorem dX7_member_4 : decode cX7_member 4 = .ok (.iload_n 1, 1) := by decide +kernel
theorem dX7_member_5 : decode cX7_member 5 = .ok (.invokevirtual 126, 3) := by decide +kernel
theorem dX7_member_8 : decode cX7_member 8 = .ok (.ifCond .eq 12, 3) := by decide +kernel
theorem dX7_member_11 : decode cX7_member 11 = .ok (.iload_n 2, 1) := by decide +kernel
theorem dX7_member_12 : decode cX7_member 12 = .ok (.iconst 0, 1) := by decide +kernel
theorem dX7_member_13 : decode cX7_member 13 = .ok (.iconst 3, 1) := by decide +kernel
theorem dX7_member_14 : decode cX7_member 14 = .ok (.invokestatic 130, 3) := by decide +kernel
theorem dX7_member_17 : decode cX7_member 17 = .ok (.ifCond .ne 5, 3) := by decide +kernel
theorem dX7_member_20 : decode cX7_member 20 = .ok (.iconst (-1), 1) := by decide +kernel
theorem dX7_member_21 : decode cX7_member 21 = .ok (.ireturn, 1) := by decide +kernel
theorem dX7_member_22 : decode cX7_member 22 = .ok (.aload_n 0, 1) := by decide +kernel
theorem dX7_member_23 : decode cX7_member 23 = .ok (.aload_n 0, 1) := by decide +kernel
theorem dX7_member_24 : decode cX7_member 24 = .ok (.iload_n 1, 1) := by decide +kernel
theorem dX7_member_25 : decode cX7_member 25 = .ok (.iload_n 2, 1) := by decide +kernel
theorem dX7_member_26 : decode cX7_member 26 = .ok (.invokevirtual 134, 3) := by decide +kernel
theorem dX7_member_29 : decode cX7_member 29 = .ok (.putfield 82, 3) := by decide +kernel
theorem dX7_member_32 : decode cX7_member 32 = .ok (.iconst 1, 1) := by decide +kernel
theorem dX7_member_33 : decode cX7_member 33 = .ok (.ireturn, 1) := by decide +kernel
theorem dX7_mark_0 : decode cX7_mark 0 = .ok (.aload_n 0, 1) := by decide +kernel
theorem dX7_mark_1 : decode cX7_mark 1 = .ok (.getfield 23, 3) := by decide +kernel
theorem dX7_mark_4 : decode cX7_mark 4 = .ok (.iload_n 1, 1) := by decide +kernel
theorem dX7_mark_5 : decode cX7_mark 5 = .ok (.invokevirtual 126, 3) := by decide +kernel
theorem dX7_mark_8 : decode cX7_mark 8 = .ok (.ifCond .eq 12, 3) := by decide +kernel
theorem dX7_mark_11 : decode cX7_mark 11 = .ok (.iload_n 2, 1) := by decide +kernel
theorem dX7_mark_12 : decode cX7_mark 12 = .ok (.iconst 1, 1) := by decide +kernel
theorem dX7_mark_13 : decode cX7_mark 13 = .ok (.iconst 5, 1) := by decide +kernel
theorem dX7_mark_14 : decode cX7_mark 14 = .ok (.invokestatic 130, 3) := by decide +kernel
theorem dX7_mark_17 : decode cX7_mark 17 = .ok (.ifCond .ne 5, 3) := by decide +kernel
theorem dX7_mark_20 : decode cX7_mark 20 = .ok (.iconst (-1), 1) := by decide +kernel
theorem dX7_mark_21 : decode cX7_mark 21 = .ok (.ireturn, 1) := by decide +kernel
theorem dX7_mark_22 : decode cX7_mark 22 = .ok (.aload_n 0, 1) := by decide +kernel
theorem dX7_mark_23 : decode cX7_mark 23 = .ok (.getfield 23, 3) := by decide +kernel
theorem dX7_mark_26 : decode cX7_mark 26 = .ok (.getfield 140, 3) := by decide +kernel
theorem dX7_mark_29 : decode cX7_mark 29 = .ok (.iload_n 1, 1) := by decide +kernel
theorem dX7_mark_30 : decode cX7_mark 30 = .ok (.iaload, 1) := by decide +kernel
theorem dX7_mark_31 : decode cX7_mark 31 = .ok (.istore_n 3, 1) := by decide +kernel
theorem dX7_mark_32 : decode cX7_mark 32 = .ok (.iload_n 3, 1) := by decide +kernel
theorem dX7_mark_33 : decode cX7_mark 33 = .ok (.iload_n 2, 1) := by decide +kernel
theorem dX7_mark_34 : decode cX7_mark 34 = .ok (.invokestatic 143, 3) := by decide +kernel
theorem dX7_mark_37 : decode cX7_mark 37 = .ok (.ifCond .ne 9, 3) := by decide +kernel
theorem dX7_mark_40 : decode cX7_mark 40 = .ok (.aload_n 0, 1) := by decide +kernel
theorem dX7_mark_41 : decode cX7_mark 41 = .ok (.iconst 3, 1) := by decide +kernel
theorem dX7_mark_42 : decode cX7_mark 42 = .ok (.invokevirtual 93, 3) := by decide +kernel
theorem dX7_mark_45 : decode cX7_mark 45 = .ok (.ireturn, 1) := by decide +kernel
theorem dX7_mark_46 : decode cX7_mark 46 = .ok (.iload_n 2, 1) := by decide +kernel
theorem dX7_mark_47 : decode cX7_mark 47 = .ok (.tableswitch 63 1 4 #[29, 38, 47, 57], 29) := by decide +kernel
theorem dX7_mark_76 : decode cX7_mark 76 = .ok (.aload_n 0, 1) := by decide +kernel
theorem dX7_mark_77 : decode cX7_mark 77 = .ok (.getfield 23, 3) := by decide +kernel
theorem dX7_mark_80 : decode cX7_mark 80 = .ok (.iload_n 1, 1) := by decide +kernel
theorem dX7_mark_81 : decode cX7_mark 81 = .ok (.invokevirtual 146, 3) := by decide +kernel
theorem dX7_mark_84 : decode cX7_mark 84 = .ok (.ireturn, 1) := by decide +kernel
theorem dX7_mark_85 : decode cX7_mark 85 = .ok (.aload_n 0, 1) := by decide +kernel
theorem dX7_mark_86 : decode cX7_mark 86 = .ok (.getfield 23, 3) := by decide +kernel
theorem dX7_mark_89 : decode cX7_mark 89 = .ok (.iload_n 1, 1) := by decide +kernel
theorem dX7_mark_90 : decode cX7_mark 90 = .ok (.invokevirtual 149, 3) := by decide +kernel
theorem dX7_mark_93 : decode cX7_mark 93 = .ok (.ireturn, 1) := by decide +kernel
theorem dX7_mark_94 : decode cX7_mark 94 = .ok (.aload_n 0, 1) := by decide +kernel
theorem dX7_mark_95 : decode cX7_mark 95 = .ok (.getfield 23, 3) := by decide +kernel
theorem dX7_mark_98 : decode cX7_mark 98 = .ok (.iload_n 1, 1) := by decide +kernel
theorem dX7_mark_99 : decode cX7_mark 99 = .ok (.iconst 5, 1) := by decide +kernel
theorem dX7_mark_100 : decode cX7_mark 100 = .ok (.invokevirtual 152, 3) := by decide +kernel
theorem dX7_mark_103 : decode cX7_mark 103 = .ok (.ireturn, 1) := by decide +kernel
theorem dX7_mark_104 : decode cX7_mark 104 = .ok (.iload_n 3, 1) := by decide +kernel
theorem dX7_mark_105 : decode cX7_mark 105 = .ok (.iconst 0, 1) := by decide +kernel
theorem dX7_mark_106 : decode cX7_mark 106 = .ok (.invokestatic 155, 3) := by decide +kernel
theorem dX7_mark_109 : decode cX7_mark 109 = .ok (.ireturn, 1) := by decide +kernel
theorem dX7_mark_110 : decode cX7_mark 110 = .ok (.iload_n 3, 1) := by decide +kernel
theorem dX7_mark_111 : decode cX7_mark 111 = .ok (.iload_n 3, 1) := by decide +kernel
theorem dX7_mark_112 : decode cX7_mark 112 = .ok (.bipush 7, 2) := by decide +kernel
theorem dX7_mark_114 : decode cX7_mark 114 = .ok (.invokestatic 158, 3) := by decide +kernel
theorem dX7_mark_117 : decode cX7_mark 117 = .ok (.invokestatic 155, 3) := by decide +kernel
theorem dX7_mark_120 : decode cX7_mark 120 = .ok (.ireturn, 1) := by decide +kernel
theorem dX7_smoke_0 : decode cX7_smoke 0 = .ok (.aload_n 0, 1) := by decide +kernel
theorem dX7_smoke_1 : decode cX7_smoke 1 = .ok (.getfield 23, 3) := by decide +kernel
theorem dX7_smoke_4 : decode cX7_smoke 4 = .ok (.iload_n 1, 1) := by decide +kernel
theorem dX7_smoke_5 : decode cX7_smoke 5 = .ok (.invokevirtual 161, 3) := by decide +kernel
theorem dX7_smoke_8 : decode cX7_smoke 8 = .ok (.ifCond .eq 15, 3) := by decide +kernel
theorem dX7_smoke_11 : decode cX7_smoke 11 = .ok (.aload_n 0, 1) := by decide +kernel
theorem dX7_smoke_12 : decode cX7_smoke 12 = .ok (.getfield 23, 3) := by decide +kernel
theorem dX7_smoke_15 : decode cX7_smoke 15 = .ok (.getfield 164, 3) := by decide +kernel
theorem dX7_smoke_18 : decode cX7_smoke 18 = .ok (.iload_n 1, 1) := by decide +kernel
theorem dX7_smoke_19 : decode cX7_smoke 19 = .ok (.iaload, 1) := by decide +kernel
theorem dX7_smoke_20 : decode cX7_smoke 20 = .ok (.goto 4, 3) := by decide +kernel
theorem dX7_smoke_23 : decode cX7_smoke 23 = .ok (.iconst (-1), 1) := by decide +kernel
theorem dX7_smoke_24 : decode cX7_smoke 24 = .ok (.ireturn, 1) := by decide +kernel
theorem dX7_talk_0 : decode cX7_talk 0 = .ok (.aload_n 0, 1) := by decide +kernel
theorem dX7_talk_1 : decode cX7_talk 1 = .ok (.getfield 23, 3) := by decide +kernel
theorem dX7_talk_4 : decode cX7_talk 4 = .ok (.iload_n 1, 1) := by decide +kernel
theorem dX7_talk_5 : decode cX7_talk 5 = .ok (.invokevirtual 126, 3) := by decide +kernel
theorem dX7_talk_8 : decode cX7_talk 8 = .ok (.ifCond .eq 10, 3) := by decide +kernel
theorem dX7_talk_11 : decode cX7_talk 11 = .ok (.iload_n 2, 1) := by decide +kernel
theorem dX7_talk_12 : decode cX7_talk 12 = .ok (.invokestatic 167, 3) := by decide +kernel
theorem dX7_talk_15 : decode cX7_talk 15 = .ok (.ifCond .ne 5, 3) := by decide +kernel
theorem dX7_talk_18 : decode cX7_talk 18 = .ok (.iconst (-1), 1) := by decide +kernel
theorem dX7_talk_19 : decode cX7_talk 19 = .ok (.ireturn, 1) := by decide +kernel
theorem dX7_talk_20 : decode cX7_talk 20 = .ok (.aload_n 0, 1) := by decide +kernel
theorem dX7_talk_21 : decode cX7_talk 21 = .ok (.getfield 30, 3) := by decide +kernel
theorem dX7_talk_24 : decode cX7_talk 24 = .ok (.invokevirtual 170, 3) := by decide +kernel
theorem dX7_talk_27 : decode cX7_talk 27 = .ok (.ifCond .eq 8, 3) := by decide +kernel
theorem dX7_talk_30 : decode cX7_talk 30 = .ok (.bipush (-2), 2) := by decide +kernel
theorem dX7_talk_32 : decode cX7_talk 32 = .ok (.goto 10, 3) := by decide +kernel
theorem dX7_talk_35 : decode cX7_talk 35 = .ok (.aload_n 0, 1) := by decide +kernel
theorem dX7_talk_36 : decode cX7_talk 36 = .ok (.iconst 0, 1) := by decide +kernel
theorem dX7_talk_37 : decode cX7_talk 37 = .ok (.iload_n 1, 1) := by decide +kernel
theorem dX7_talk_38 : decode cX7_talk 38 = .ok (.iload_n 2, 1) := by decide +kernel
theorem dX7_talk_39 : decode cX7_talk 39 = .ok (.invokevirtual 173, 3) := by decide +kernel
theorem dX7_talk_42 : decode cX7_talk 42 = .ok (.ireturn, 1) := by decide +kernel
theorem dX7_hour_0 : decode cX7_hour 0 = .ok (.aload_n 0, 1) := by decide +kernel
theorem dX7_hour_1 : decode cX7_hour 1 = .ok (.getfield 23, 3) := by decide +kernel
theorem dX7_hour_4 : decode cX7_hour 4 = .ok (.getfield 123, 3) := by decide +kernel
theorem dX7_hour_7 : decode cX7_hour 7 = .ok (.ifCond .ne 6, 3) := by decide +kernel
theorem dX7_hour_10 : decode cX7_hour 10 = .ok (.bipush (-4), 2) := by decide +kernel
theorem dX7_hour_12 : decode cX7_hour 12 = .ok (.ireturn, 1) := by decide +kernel
theorem dX7_hour_13 : decode cX7_hour 13 = .ok (.aload_n 0, 1) := by decide +kernel
theorem dX7_hour_14 : decode cX7_hour 14 = .ok (.getfield 30, 3) := by decide +kernel
theorem dX7_hour_17 : decode cX7_hour 17 = .ok (.invokevirtual 170, 3) := by decide +kernel
theorem dX7_hour_20 : decode cX7_hour 20 = .ok (.ifCond .eq 8, 3) := by decide +kernel
theorem dX7_hour_23 : decode cX7_hour 23 = .ok (.bipush (-2), 2) := by decide +kernel
theorem dX7_hour_25 : decode cX7_hour 25 = .ok (.goto 10, 3) := by decide +kernel
theorem dX7_hour_28 : decode cX7_hour 28 = .ok (.aload_n 0, 1) := by decide +kernel
theorem dX7_hour_29 : decode cX7_hour 29 = .ok (.iconst 1, 1) := by decide +kernel
theorem dX7_hour_30 : decode cX7_hour 30 = .ok (.iconst 0, 1) := by decide +kernel
theorem dX7_hour_31 : decode cX7_hour 31 = .ok (.iconst 0, 1) := by decide +kernel
theorem dX7_hour_32 : decode cX7_hour 32 = .ok (.invokevirtual 173, 3) := by decide +kernel
theorem dX7_hour_35 : decode cX7_hour 35 = .ok (.ireturn, 1) := by decide +kernel
theorem dX7_open_0 : decode cX7_open 0 = .ok (.aload_n 0, 1) := by decide +kernel
theorem dX7_open_1 : decode cX7_open 1 = .ok (.getfield 23, 3) := by decide +kernel
theorem dX7_open_4 : decode cX7_open 4 = .ok (.iload_n 1, 1) := by decide +kernel
theorem dX7_open_5 : decode cX7_open 5 = .ok (.invokevirtual 161, 3) := by decide +kernel
theorem dX7_open_8 : decode cX7_open 8 = .ok (.ifCond .ne 5, 3) := by decide +kernel
theorem dX7_open_11 : decode cX7_open 11 = .ok (.iconst (-1), 1) := by decide +kernel
theorem dX7_open_12 : decode cX7_open 12 = .ok (.ireturn, 1) := by decide +kernel
theorem dX7_open_13 : decode cX7_open 13 = .ok (.aload_n 0, 1) := by decide +kernel
theorem dX7_open_14 : decode cX7_open 14 = .ok (.getfield 23, 3) := by decide +kernel
theorem dX7_open_17 : decode cX7_open 17 = .ok (.getfield 164, 3) := by decide +kernel
theorem dX7_open_20 : decode cX7_open 20 = .ok (.iload_n 1, 1) := by decide +kernel
theorem dX7_open_21 : decode cX7_open 21 = .ok (.iaload, 1) := by decide +kernel
theorem dX7_open_22 : decode cX7_open 22 = .ok (.ifCond .ne 6, 3) := by decide +kernel
theorem dX7_open_25 : decode cX7_open 25 = .ok (.bipush (-4), 2) := by decide +kernel
theorem dX7_open_27 : decode cX7_open 27 = .ok (.ireturn, 1) := by decide +kernel
theorem dX7_open_28 : decode cX7_open 28 = .ok (.aload_n 0, 1) := by decide +kernel
theorem dX7_open_29 : decode cX7_open 29 = .ok (.getfield 30, 3) := by decide +kernel
theorem dX7_open_32 : decode cX7_open 32 = .ok (.invokevirtual 170, 3) := by decide +kernel
theorem dX7_open_35 : decode cX7_open 35 = .ok (.ifCond .eq 8, 3) := by decide +kernel
theorem dX7_open_38 : decode cX7_open 38 = .ok (.bipush (-2), 2) := by decide +kernel
theorem dX7_open_40 : decode cX7_open 40 = .ok (.goto 10, 3) := by decide +kernel
theorem dX7_open_43 : decode cX7_open 43 = .ok (.aload_n 0, 1) := by decide +kernel
theorem dX7_open_44 : decode cX7_open 44 = .ok (.iconst 2, 1) := by decide +kernel
theorem dX7_open_45 : decode cX7_open 45 = .ok (.iload_n 1, 1) := by decide +kernel
theorem dX7_open_46 : decode cX7_open 46 = .ok (.iconst 0, 1) := by decide +kernel
theorem dX7_open_47 : decode cX7_open 47 = .ok (.invokevirtual 173, 3) := by decide +kernel
theorem dX7_open_50 : decode cX7_open 50 = .ok (.ireturn, 1) := by decide +kernel
theorem dX7_thunder_0 : decode cX7_thunder 0 = .ok (.aload_n 0, 1) := by decide +kernel
theorem dX7_thunder_1 : decode cX7_thunder 1 = .ok (.getfield 23, 3) := by decide +kernel
theorem dX7_thunder_4 : decode cX7_thunder 4 = .ok (.invokevirtual 177, 3) := by decide +kernel
theorem dX7_thunder_7 : decode cX7_thunder 7 = .ok (.ifCond .ne 6, 3) := by decide +kernel
theorem dX7_thunder_10 : decode cX7_thunder 10 = .ok (.bipush (-4), 2) := by decide +kernel
theorem dX7_thunder_12 : decode cX7_thunder 12 = .ok (.ireturn, 1) := by decide +kernel
theorem dX7_thunder_13 : decode cX7_thunder 13 = .ok (.aload_n 0, 1) := by decide +kernel
theorem dX7_thunder_14 : decode cX7_thunder 14 = .ok (.getfield 30, 3) := by decide +kernel
theorem dX7_thunder_17 : decode cX7_thunder 17 = .ok (.invokevirtual 170, 3) := by decide +kernel
theorem dX7_thunder_20 : decode cX7_thunder 20 = .ok (.ifCond .eq 8, 3) := by decide +kernel
theorem dX7_thunder_23 : decode cX7_thunder 23 = .ok (.bipush (-2), 2) := by decide +kernel
theorem dX7_thunder_25 : decode cX7_thunder 25 = .ok (.goto 10, 3) := by decide +kernel
theorem dX7_thunder_28 : decode cX7_thunder 28 = .ok (.aload_n 0, 1) := by decide +kernel
theorem dX7_thunder_29 : decode cX7_thunder 29 = .ok (.iconst 3, 1) := by decide +kernel
theorem dX7_thunder_30 : decode cX7_thunder 30 = .ok (.iconst 0, 1) := by decide +kernel
theorem dX7_thunder_31 : decode cX7_thunder 31 = .ok (.iconst 0, 1) := by decide +kernel
theorem dX7_thunder_32 : decode cX7_thunder 32 = .ok (.invokevirtual 173, 3) := by decide +kernel
theorem dX7_thunder_35 : decode cX7_thunder 35 = .ok (.ireturn, 1) := by decide +kernel
theorem dX7_undo_0 : decode cX7_undo 0 = .ok (.iload_n 1, 1) := by decide +kernel
theorem dX7_undo_1 : decode cX7_undo 1 = .ok (.iconst 0, 1) := by decide +kernel
theorem dX7_undo_2 : decode cX7_undo 2 = .ok (.aload_n 0, 1) := by decide +kernel
theorem dX7_undo_3 : decode cX7_undo 3 = .ok (.getfield 30, 3) := by decide +kernel
theorem dX7_undo_6 : decode cX7_undo 6 = .ok (.getfield 34, 3) := by decide +kernel
theorem dX7_undo_9 : decode cX7_undo 9 = .ok (.invokestatic 130, 3) := by decide +kernel
theorem dX7_undo_12 : decode cX7_undo 12 = .ok (.ifCond .ne 5, 3) := by decide +kernel
theorem dX7_undo_15 : decode cX7_undo 15 = .ok (.iconst (-1), 1) := by decide +kernel
theorem dX7_undo_16 : decode cX7_undo 16 = .ok (.ireturn, 1) := by decide +kernel
theorem dX7_undo_17 : decode cX7_undo 17 = .ok (.aload_n 0, 1) := by decide +kernel
theorem dX7_undo_18 : decode cX7_undo 18 = .ok (.getfield 30, 3) := by decide +kernel
theorem dX7_undo_21 : decode cX7_undo 21 = .ok (.getfield 34, 3) := by decide +kernel
theorem dX7_undo_24 : decode cX7_undo 24 = .ok (.iload_n 1, 1) := by decide +kernel
theorem dX7_undo_25 : decode cX7_undo 25 = .ok (.isub, 1) := by decide +kernel
theorem dX7_undo_26 : decode cX7_undo 26 = .ok (.istore_n 2, 1) := by decide +kernel
theorem dX7_undo_27 : decode cX7_undo 27 = .ok (.aload_n 0, 1) := by decide +kernel
theorem dX7_undo_28 : decode cX7_undo 28 = .ok (.getfield 30, 3) := by decide +kernel
theorem dX7_undo_31 : decode cX7_undo 31 = .ok (.iload_n 1, 1) := by decide +kernel
theorem dX7_undo_32 : decode cX7_undo 32 = .ok (.putfield 34, 3) := by decide +kernel
theorem dX7_undo_35 : decode cX7_undo 35 = .ok (.aload_n 0, 1) := by decide +kernel
theorem dX7_undo_36 : decode cX7_undo 36 = .ok (.invokevirtual 181, 3) := by decide +kernel
theorem dX7_undo_39 : decode cX7_undo 39 = .ok (.iload_n 2, 1) := by decide +kernel
theorem dX7_undo_40 : decode cX7_undo 40 = .ok (.ireturn, 1) := by decide +kernel
theorem dX7_keep_0 : decode cX7_keep 0 = .ok (.iload_n 1, 1) := by decide +kernel
theorem dX7_keep_1 : decode cX7_keep 1 = .ok (.iconst 0, 1) := by decide +kernel
theorem dX7_keep_2 : decode cX7_keep 2 = .ok (.aload_n 0, 1) := by decide +kernel
theorem dX7_keep_3 : decode cX7_keep 3 = .ok (.getfield 38, 3) := by decide +kernel
theorem dX7_keep_6 : decode cX7_keep 6 = .ok (.arraylength, 1) := by decide +kernel
theorem dX7_keep_7 : decode cX7_keep 7 = .ok (.iconst 1, 1) := by decide +kernel
theorem dX7_keep_8 : decode cX7_keep 8 = .ok (.isub, 1) := by decide +kernel
theorem dX7_keep_9 : decode cX7_keep 9 = .ok (.invokestatic 130, 3) := by decide +kernel
theorem dX7_keep_12 : decode cX7_keep 12 = .ok (.ifCond .ne 5, 3) := by decide +kernel
theorem dX7_keep_15 : decode cX7_keep 15 = .ok (.iconst (-1), 1) := by decide +kernel
theorem dX7_keep_16 : decode cX7_keep 16 = .ok (.ireturn, 1) := by decide +kernel
theorem dX7_keep_17 : decode cX7_keep 17 = .ok (.aload_n 0, 1) := by decide +kernel
theorem dX7_keep_18 : decode cX7_keep 18 = .ok (.getfield 23, 3) := by decide +kernel
theorem dX7_keep_21 : decode cX7_keep 21 = .ok (.getfield 123, 3) := by decide +kernel
theorem dX7_keep_24 : decode cX7_keep 24 = .ok (.ifCond .ne 6, 3) := by decide +kernel
theorem dX7_keep_27 : decode cX7_keep 27 = .ok (.bipush (-4), 2) := by decide +kernel
theorem dX7_keep_29 : decode cX7_keep 29 = .ok (.ireturn, 1) := by decide +kernel
theorem dX7_keep_30 : decode cX7_keep 30 = .ok (.aload_n 0, 1) := by decide +kernel
theorem dX7_keep_31 : decode cX7_keep 31 = .ok (.getfield 38, 3) := by decide +kernel
theorem dX7_keep_34 : decode cX7_keep 34 = .ok (.iload_n 1, 1) := by decide +kernel
theorem dX7_keep_35 : decode cX7_keep 35 = .ok (.aaload, 1) := by decide +kernel
theorem dX7_keep_36 : decode cX7_keep 36 = .ok (.aload_n 0, 1) := by decide +kernel
theorem dX7_keep_37 : decode cX7_keep 37 = .ok (.getfield 30, 3) := by decide +kernel
theorem dX7_keep_40 : decode cX7_keep 40 = .ok (.invokevirtual 184, 3) := by decide +kernel
theorem dX7_keep_43 : decode cX7_keep 43 = .ok (.aload_n 0, 1) := by decide +kernel
theorem dX7_keep_44 : decode cX7_keep 44 = .ok (.getfield 30, 3) := by decide +kernel
theorem dX7_keep_47 : decode cX7_keep 47 = .ok (.getfield 34, 3) := by decide +kernel
theorem dX7_keep_50 : decode cX7_keep 50 = .ok (.ireturn, 1) := by decide +kernel
theorem dX7_on_0 : decode cX7_on 0 = .ok (.iload_n 1, 1) := by decide +kernel
theorem dX7_on_1 : decode cX7_on 1 = .ok (.iconst 0, 1) := by decide +kernel
theorem dX7_on_2 : decode cX7_on 2 = .ok (.aload_n 0, 1) := by decide +kernel
theorem dX7_on_3 : decode cX7_on 3 = .ok (.getfield 38, 3) := by decide +kernel
theorem dX7_on_6 : decode cX7_on 6 = .ok (.arraylength, 1) := by decide +kernel
theorem dX7_on_7 : decode cX7_on 7 = .ok (.iconst 1, 1) := by decide +kernel
theorem dX7_on_8 : decode cX7_on 8 = .ok (.isub, 1) := by decide +kernel
theorem dX7_on_9 : decode cX7_on 9 = .ok (.invokestatic 130, 3) := by decide +kernel
theorem dX7_on_12 : decode cX7_on 12 = .ok (.ifCond .ne 5, 3) := by decide +kernel
theorem dX7_on_15 : decode cX7_on 15 = .ok (.iconst (-1), 1) := by decide +kernel
theorem dX7_on_16 : decode cX7_on 16 = .ok (.ireturn, 1) := by decide +kernel
theorem dX7_on_17 : decode cX7_on 17 = .ok (.aload_n 0, 1) := by decide +kernel
theorem dX7_on_18 : decode cX7_on 18 = .ok (.getfield 38, 3) := by decide +kernel
theorem dX7_on_21 : decode cX7_on 21 = .ok (.iload_n 1, 1) := by decide +kernel
theorem dX7_on_22 : decode cX7_on 22 = .ok (.aaload, 1) := by decide +kernel
theorem dX7_on_23 : decode cX7_on 23 = .ok (.getfield 34, 3) := by decide +kernel
theorem dX7_on_26 : decode cX7_on 26 = .ok (.iconst (-1), 1) := by decide +kernel
theorem dX7_on_27 : decode cX7_on 27 = .ok (.if_icmp .ne 9, 3) := by decide +kernel
theorem dX7_on_30 : decode cX7_on 30 = .ok (.aload_n 0, 1) := by decide +kernel
theorem dX7_on_31 : decode cX7_on 31 = .ok (.iconst 1, 1) := by decide +kernel
theorem dX7_on_32 : decode cX7_on 32 = .ok (.invokevirtual 93, 3) := by decide +kernel
theorem dX7_on_35 : decode cX7_on 35 = .ok (.ireturn, 1) := by decide +kernel
theorem dX7_on_36 : decode cX7_on 36 = .ok (.aload_n 0, 1) := by decide +kernel
theorem dX7_on_37 : decode cX7_on 37 = .ok (.getfield 30, 3) := by decide +kernel
theorem dX7_on_40 : decode cX7_on 40 = .ok (.aload_n 0, 1) := by decide +kernel
theorem dX7_on_41 : decode cX7_on 41 = .ok (.getfield 38, 3) := by decide +kernel
theorem dX7_on_44 : decode cX7_on 44 = .ok (.iload_n 1, 1) := by decide +kernel
theorem dX7_on_45 : decode cX7_on 45 = .ok (.aaload, 1) := by decide +kernel
theorem dX7_on_46 : decode cX7_on 46 = .ok (.invokevirtual 184, 3) := by decide +kernel
theorem dX7_on_49 : decode cX7_on 49 = .ok (.aload_n 0, 1) := by decide +kernel
theorem dX7_on_50 : decode cX7_on 50 = .ok (.invokevirtual 181, 3) := by decide +kernel
theorem dX7_on_53 : decode cX7_on 53 = .ok (.aload_n 0, 1) := by decide +kernel
theorem dX7_on_54 : decode cX7_on 54 = .ok (.getfield 30, 3) := by decide +kernel
theorem dX7_on_57 : decode cX7_on 57 = .ok (.getfield 34, 3) := by decide +kernel
theorem dX7_on_60 : decode cX7_on 60 = .ok (.ireturn, 1) := by decide +kernel
theorem dX7_says_0 : decode cX7_says 0 = .ok (.aload_n 0, 1) := by decide +kernel
theorem dX7_says_1 : decode cX7_says 1 = .ok (.getfield 23, 3) := by decide +kernel
theorem dX7_says_4 : decode cX7_says 4 = .ok (.iload_n 1, 1) := by decide +kernel
theorem dX7_says_5 : decode cX7_says 5 = .ok (.invokevirtual 126, 3) := by decide +kernel
theorem dX7_says_8 : decode cX7_says 8 = .ok (.ifCond .eq 26, 3) := by decide +kernel
theorem dX7_says_11 : decode cX7_says 11 = .ok (.iload_n 2, 1) := by decide +kernel
theorem dX7_says_12 : decode cX7_says 12 = .ok (.invokestatic 167, 3) := by decide +kernel
theorem dX7_says_15 : decode cX7_says 15 = .ok (.ifCond .eq 19, 3) := by decide +kernel
theorem dX7_says_18 : decode cX7_says 18 = .ok (.aload_n 0, 1) := by decide +kernel
theorem dX7_says_19 : decode cX7_says 19 = .ok (.getfield 23, 3) := by decide +kernel
theorem dX7_says_22 : decode cX7_says 22 = .ok (.getfield 140, 3) := by decide +kernel
theorem dX7_says_25 : decode cX7_says 25 = .ok (.iload_n 1, 1) := by decide +kernel
theorem dX7_says_26 : decode cX7_says 26 = .ok (.iaload, 1) := by decide +kernel
theorem dX7_says_27 : decode cX7_says 27 = .ok (.iload_n 2, 1) := by decide +kernel
theorem dX7_says_28 : decode cX7_says 28 = .ok (.invokestatic 158, 3) := by decide +kernel
theorem dX7_says_31 : decode cX7_says 31 = .ok (.goto 4, 3) := by decide +kernel
theorem dX7_says_34 : decode cX7_says 34 = .ok (.iconst (-1), 1) := by decide +kernel
theorem dX7_says_35 : decode cX7_says 35 = .ok (.ireturn, 1) := by decide +kernel
theorem dX7_breathes_0 : decode cX7_breathes 0 = .ok (.aload_n 0, 1) := by decide +kernel
theorem dX7_breathes_1 : decode cX7_breathes 1 = .ok (.getfield 23, 3) := by decide +kernel
theorem dX7_breathes_4 : decode cX7_breathes 4 = .ok (.iload_n 1, 1) := by decide +kernel
theorem dX7_breathes_5 : decode cX7_breathes 5 = .ok (.invokevirtual 126, 3) := by decide +kernel
theorem dX7_breathes_8 : decode cX7_breathes 8 = .ok (.ifCond .eq 26, 3) := by decide +kernel
theorem dX7_breathes_11 : decode cX7_breathes 11 = .ok (.iload_n 2, 1) := by decide +kernel
theorem dX7_breathes_12 : decode cX7_breathes 12 = .ok (.invokestatic 167, 3) := by decide +kernel
theorem dX7_breathes_15 : decode cX7_breathes 15 = .ok (.ifCond .eq 19, 3) := by decide +kernel
theorem dX7_breathes_18 : decode cX7_breathes 18 = .ok (.aload_n 0, 1) := by decide +kernel
theorem dX7_breathes_19 : decode cX7_breathes 19 = .ok (.getfield 23, 3) := by decide +kernel
theorem dX7_breathes_22 : decode cX7_breathes 22 = .ok (.getfield 140, 3) := by decide +kernel
theorem dX7_breathes_25 : decode cX7_breathes 25 = .ok (.iload_n 1, 1) := by decide +kernel
theorem dX7_breathes_26 : decode cX7_breathes 26 = .ok (.iaload, 1) := by decide +kernel
theorem dX7_breathes_27 : decode cX7_breathes 27 = .ok (.iload_n 2, 1) := by decide +kernel
theorem dX7_breathes_28 : decode cX7_breathes 28 = .ok (.invokestatic 188, 3) := by decide +kernel
theorem dX7_breathes_31 : decode cX7_breathes 31 = .ok (.goto 4, 3) := by decide +kernel
theorem dX7_breathes_34 : decode cX7_breathes 34 = .ok (.iconst (-1), 1) := by decide +kernel
theorem dX7_breathes_35 : decode cX7_breathes 35 = .ok (.ireturn, 1) := by decide +kernel
theorem dX7_means_0 : decode cX7_means 0 = .ok (.aload_n 0, 1) := by decide +kernel
theorem dX7_means_1 : decode cX7_means 1 = .ok (.getfield 23, 3) := by decide +kernel
theorem dX7_means_4 : decode cX7_means 4 = .ok (.iload_n 1, 1) := by decide +kernel
theorem dX7_means_5 : decode cX7_means 5 = .ok (.invokevirtual 126, 3) := by decide +kernel
theorem dX7_means_8 : decode cX7_means 8 = .ok (.ifCond .eq 10, 3) := by decide +kernel
theorem dX7_means_11 : decode cX7_means 11 = .ok (.iload_n 2, 1) := by decide +kernel
theorem dX7_means_12 : decode cX7_means 12 = .ok (.invokestatic 167, 3) := by decide +kernel
theorem dX7_means_15 : decode cX7_means 15 = .ok (.ifCond .ne 5, 3) := by decide +kernel
theorem dX7_means_18 : decode cX7_means 18 = .ok (.iconst (-1), 1) := by decide +kernel
theorem dX7_means_19 : decode cX7_means 19 = .ok (.ireturn, 1) := by decide +kernel
theorem dX7_means_20 : decode cX7_means 20 = .ok (.aload_n 0, 1) := by decide +kernel
theorem dX7_means_21 : decode cX7_means 21 = .ok (.aload_n 0, 1) := by decide +kernel
theorem dX7_means_22 : decode cX7_means 22 = .ok (.getfield 23, 3) := by decide +kernel
theorem dX7_means_25 : decode cX7_means 25 = .ok (.getfield 140, 3) := by decide +kernel
theorem dX7_means_28 : decode cX7_means 28 = .ok (.iload_n 1, 1) := by decide +kernel
theorem dX7_means_29 : decode cX7_means 29 = .ok (.iaload, 1) := by decide +kernel
theorem dX7_means_30 : decode cX7_means 30 = .ok (.iload_n 2, 1) := by decide +kernel
theorem dX7_means_31 : decode cX7_means 31 = .ok (.invokestatic 191, 3) := by decide +kernel
theorem dX7_means_34 : decode cX7_means 34 = .ok (.putfield 82, 3) := by decide +kernel
theorem dX7_means_37 : decode cX7_means 37 = .ok (.aload_n 0, 1) := by decide +kernel
theorem dX7_means_38 : decode cX7_means 38 = .ok (.getfield 23, 3) := by decide +kernel
theorem dX7_means_41 : decode cX7_means 41 = .ok (.getfield 140, 3) := by decide +kernel
theorem dX7_means_44 : decode cX7_means 44 = .ok (.iload_n 1, 1) := by decide +kernel
theorem dX7_means_45 : decode cX7_means 45 = .ok (.iaload, 1) := by decide +kernel
theorem dX7_means_46 : decode cX7_means 46 = .ok (.iload_n 2, 1) := by decide +kernel
theorem dX7_means_47 : decode cX7_means 47 = .ok (.invokestatic 155, 3) := by decide +kernel
theorem dX7_means_50 : decode cX7_means 50 = .ok (.ireturn, 1) := by decide +kernel
theorem dX7_least_0 : decode cX7_least 0 = .ok (.aload_n 0, 1) := by decide +kernel
theorem dX7_least_1 : decode cX7_least 1 = .ok (.getfield 23, 3) := by decide +kernel
theorem dX7_least_4 : decode cX7_least 4 = .ok (.iload_n 1, 1) := by decide +kernel
theorem dX7_least_5 : decode cX7_least 5 = .ok (.invokevirtual 126, 3) := by decide +kernel
theorem dX7_least_8 : decode cX7_least 8 = .ok (.ifCond .eq 10, 3) := by decide +kernel
theorem dX7_least_11 : decode cX7_least 11 = .ok (.iload_n 2, 1) := by decide +kernel
theorem dX7_least_12 : decode cX7_least 12 = .ok (.invokestatic 167, 3) := by decide +kernel
theorem dX7_least_15 : decode cX7_least 15 = .ok (.ifCond .ne 5, 3) := by decide +kernel
theorem dX7_least_18 : decode cX7_least 18 = .ok (.iconst (-1), 1) := by decide +kernel
theorem dX7_least_19 : decode cX7_least 19 = .ok (.ireturn, 1) := by decide +kernel
theorem dX7_least_20 : decode cX7_least 20 = .ok (.iconst 0, 1) := by decide +kernel
theorem dX7_least_21 : decode cX7_least 21 = .ok (.istore_n 3, 1) := by decide +kernel
theorem dX7_least_22 : decode cX7_least 22 = .ok (.iload_n 3, 1) := by decide +kernel
theorem dX7_least_23 : decode cX7_least 23 = .ok (.bipush 99, 2) := by decide +kernel
theorem dX7_least_25 : decode cX7_least 25 = .ok (.if_icmp .gt 28, 3) := by decide +kernel
theorem dX7_least_28 : decode cX7_least 28 = .ok (.aload_n 0, 1) := by decide +kernel
theorem dX7_least_29 : decode cX7_least 29 = .ok (.getfield 23, 3) := by decide +kernel
theorem dX7_least_32 : decode cX7_least 32 = .ok (.getfield 140, 3) := by decide +kernel
theorem dX7_least_35 : decode cX7_least 35 = .ok (.iload_n 1, 1) := by decide +kernel
theorem dX7_least_36 : decode cX7_least 36 = .ok (.iaload, 1) := by decide +kernel
theorem dX7_least_37 : decode cX7_least 37 = .ok (.iload_n 3, 1) := by decide +kernel
theorem dX7_least_38 : decode cX7_least 38 = .ok (.invokestatic 188, 3) := by decide +kernel
theorem dX7_least_41 : decode cX7_least 41 = .ok (.iload_n 2, 1) := by decide +kernel
theorem dX7_least_42 : decode cX7_least 42 = .ok (.if_icmp .lt 5, 3) := by decide +kernel
theorem dX7_least_45 : decode cX7_least 45 = .ok (.iload_n 3, 1) := by decide +kernel
theorem dX7_least_46 : decode cX7_least 46 = .ok (.ireturn, 1) := by decide +kernel
theorem dX7_least_47 : decode cX7_least 47 = .ok (.iinc 3 1, 3) := by decide +kernel
theorem dX7_least_50 : decode cX7_least 50 = .ok (.goto (-28), 3) := by decide +kernel
theorem dX7_least_53 : decode cX7_least 53 = .ok (.bipush (-9), 2) := by decide +kernel
theorem dX7_least_55 : decode cX7_least 55 = .ok (.ireturn, 1) := by decide +kernel
theorem dX7_hangs_0 : decode cX7_hangs 0 = .ok (.aload_n 0, 1) := by decide +kernel
theorem dX7_hangs_1 : decode cX7_hangs 1 = .ok (.getfield 23, 3) := by decide +kernel
theorem dX7_hangs_4 : decode cX7_hangs 4 = .ok (.iload_n 1, 1) := by decide +kernel
theorem dX7_hangs_5 : decode cX7_hangs 5 = .ok (.invokevirtual 161, 3) := by decide +kernel
theorem dX7_hangs_8 : decode cX7_hangs 8 = .ok (.ifCond .eq 13, 3) := by decide +kernel
theorem dX7_hangs_11 : decode cX7_hangs 11 = .ok (.iload_n 2, 1) := by decide +kernel
theorem dX7_hangs_12 : decode cX7_hangs 12 = .ok (.iconst 0, 1) := by decide +kernel
theorem dX7_hangs_13 : decode cX7_hangs 13 = .ok (.bipush 60, 2) := by decide +kernel
theorem dX7_hangs_15 : decode cX7_hangs 15 = .ok (.invokestatic 130, 3) := by decide +kernel
theorem dX7_hangs_18 : decode cX7_hangs 18 = .ok (.ifCond .ne 5, 3) := by decide +kernel
theorem dX7_hangs_21 : decode cX7_hangs 21 = .ok (.iconst (-1), 1) := by decide +kernel
theorem dX7_hangs_22 : decode cX7_hangs 22 = .ok (.ireturn, 1) := by decide +kernel
theorem dX7_hangs_23 : decode cX7_hangs 23 = .ok (.aload_n 0, 1) := by decide +kernel
theorem dX7_hangs_24 : decode cX7_hangs 24 = .ok (.getfield 23, 3) := by decide +kernel
theorem dX7_hangs_27 : decode cX7_hangs 27 = .ok (.iload_n 1, 1) := by decide +kernel
theorem dX7_hangs_28 : decode cX7_hangs 28 = .ok (.iload_n 2, 1) := by decide +kernel
theorem dX7_hangs_29 : decode cX7_hangs 29 = .ok (.invokevirtual 194, 3) := by decide +kernel
theorem dX7_hangs_32 : decode cX7_hangs 32 = .ok (.ireturn, 1) := by decide +kernel
theorem dX7_clear_0 : decode cX7_clear 0 = .ok (.aload_n 0, 1) := by decide +kernel
theorem dX7_clear_1 : decode cX7_clear 1 = .ok (.getfield 23, 3) := by decide +kernel
theorem dX7_clear_4 : decode cX7_clear 4 = .ok (.getfield 123, 3) := by decide +kernel
theorem dX7_clear_7 : decode cX7_clear 7 = .ok (.ifCond .ne 6, 3) := by decide +kernel
theorem dX7_clear_10 : decode cX7_clear 10 = .ok (.bipush (-4), 2) := by decide +kernel
theorem dX7_clear_12 : decode cX7_clear 12 = .ok (.ireturn, 1) := by decide +kernel
theorem dX7_clear_13 : decode cX7_clear 13 = .ok (.aload_n 0, 1) := by decide +kernel
theorem dX7_clear_14 : decode cX7_clear 14 = .ok (.getfield 23, 3) := by decide +kernel
theorem dX7_clear_17 : decode cX7_clear 17 = .ok (.aload_n 0, 1) := by decide +kernel
theorem dX7_clear_18 : decode cX7_clear 18 = .ok (.getfield 23, 3) := by decide +kernel
theorem dX7_clear_21 : decode cX7_clear 21 = .ok (.getfield 164, 3) := by decide +kernel
theorem dX7_clear_24 : decode cX7_clear 24 = .ok (.invokevirtual 197, 3) := by decide +kernel
theorem dX7_clear_27 : decode cX7_clear 27 = .ok (.istore_n 1, 1) := by decide +kernel
theorem dX7_clear_28 : decode cX7_clear 28 = .ok (.iload_n 1, 1) := by decide +kernel
theorem dX7_clear_29 : decode cX7_clear 29 = .ok (.ifCond .ne 5, 3) := by decide +kernel
theorem dX7_clear_32 : decode cX7_clear 32 = .ok (.iconst 0, 1) := by decide +kernel
theorem dX7_clear_33 : decode cX7_clear 33 = .ok (.ireturn, 1) := by decide +kernel
theorem dX7_clear_34 : decode cX7_clear 34 = .ok (.aload_n 0, 1) := by decide +kernel
theorem dX7_clear_35 : decode cX7_clear 35 = .ok (.getfield 23, 3) := by decide +kernel
theorem dX7_clear_38 : decode cX7_clear 38 = .ok (.getfield 201, 3) := by decide +kernel
theorem dX7_clear_41 : decode cX7_clear 41 = .ok (.ifCond .ne 6, 3) := by decide +kernel
theorem dX7_clear_44 : decode cX7_clear 44 = .ok (.bipush (-9), 2) := by decide +kernel
theorem dX7_clear_46 : decode cX7_clear 46 = .ok (.ireturn, 1) := by decide +kernel
theorem dX7_clear_47 : decode cX7_clear 47 = .ok (.iload_n 1, 1) := by decide +kernel
theorem dX7_clear_48 : decode cX7_clear 48 = .ok (.aload_n 0, 1) := by decide +kernel
theorem dX7_clear_49 : decode cX7_clear 49 = .ok (.getfield 23, 3) := by decide +kernel
theorem dX7_clear_52 : decode cX7_clear 52 = .ok (.getfield 201, 3) := by decide +kernel
theorem dX7_clear_55 : decode cX7_clear 55 = .ok (.iadd, 1) := by decide +kernel
theorem dX7_clear_56 : decode cX7_clear 56 = .ok (.iconst 1, 1) := by decide +kernel
theorem dX7_clear_57 : decode cX7_clear 57 = .ok (.isub, 1) := by decide +kernel
theorem dX7_clear_58 : decode cX7_clear 58 = .ok (.aload_n 0, 1) := by decide +kernel
theorem dX7_clear_59 : decode cX7_clear 59 = .ok (.getfield 23, 3) := by decide +kernel
theorem dX7_clear_62 : decode cX7_clear 62 = .ok (.getfield 201, 3) := by decide +kernel
theorem dX7_clear_65 : decode cX7_clear 65 = .ok (.idiv, 1) := by decide +kernel
theorem dX7_clear_66 : decode cX7_clear 66 = .ok (.ireturn, 1) := by decide +kernel
theorem dX7_window_0 : decode cX7_window 0 = .ok (.iload_n 1, 1) := by decide +kernel
theorem dX7_window_1 : decode cX7_window 1 = .ok (.iconst 0, 1) := by decide +kernel
theorem dX7_window_2 : decode cX7_window 2 = .ok (.sipush 7992, 3) := by decide +kernel
theorem dX7_window_5 : decode cX7_window 5 = .ok (.invokestatic 130, 3) := by decide +kernel
theorem dX7_window_8 : decode cX7_window 8 = .ok (.ifCond .ne 5, 3) := by decide +kernel
theorem dX7_window_11 : decode cX7_window 11 = .ok (.iconst (-1), 1) := by decide +kernel
theorem dX7_window_12 : decode cX7_window 12 = .ok (.ireturn, 1) := by decide +kernel
theorem dX7_window_13 : decode cX7_window 13 = .ok (.aload_n 0, 1) := by decide +kernel
theorem dX7_window_14 : decode cX7_window 14 = .ok (.getfield 23, 3) := by decide +kernel
theorem dX7_window_17 : decode cX7_window 17 = .ok (.getfield 123, 3) := by decide +kernel
theorem dX7_window_20 : decode cX7_window 20 = .ok (.ifCond .ne 6, 3) := by decide +kernel
theorem dX7_window_23 : decode cX7_window 23 = .ok (.bipush (-4), 2) := by decide +kernel
theorem dX7_window_25 : decode cX7_window 25 = .ok (.ireturn, 1) := by decide +kernel
theorem dX7_window_26 : decode cX7_window 26 = .ok (.iconst 1, 1) := by decide +kernel
theorem dX7_window_27 : decode cX7_window 27 = .ok (.aload_n 0, 1) := by decide +kernel
theorem dX7_window_28 : decode cX7_window 28 = .ok (.getfield 23, 3) := by decide +kernel
theorem dX7_window_31 : decode cX7_window 31 = .ok (.getfield 204, 3) := by decide +kernel
theorem dX7_window_34 : decode cX7_window 34 = .ok (.ishl, 1) := by decide +kernel
theorem dX7_window_35 : decode cX7_window 35 = .ok (.iconst 1, 1) := by decide +kernel
theorem dX7_window_36 : decode cX7_window 36 = .ok (.isub, 1) := by decide +kernel
theorem dX7_window_37 : decode cX7_window 37 = .ok (.istore_n 2, 1) := by decide +kernel
theorem dX7_window_38 : decode cX7_window 38 = .ok (.iload_n 2, 1) := by decide +kernel
theorem dX7_window_39 : decode cX7_window 39 = .ok (.istore_n 3, 1) := by decide +kernel
theorem dX7_window_40 : decode cX7_window 40 = .ok (.iconst 0, 1) := by decide +kernel
theorem dX7_window_41 : decode cX7_window 41 = .ok (.istore 4, 2) := by decide +kernel
theorem dX7_window_43 : decode cX7_window 43 = .ok (.iload 4, 2) := by decide +kernel
theorem dX7_window_45 : decode cX7_window 45 = .ok (.iload_n 2, 1) := by decide +kernel
theorem dX7_window_46 : decode cX7_window 46 = .ok (.if_icmp .ge 49, 3) := by decide +kernel
theorem dX7_window_49 : decode cX7_window 49 = .ok (.iload 4, 2) := by decide +kernel
theorem dX7_window_51 : decode cX7_window 51 = .ok (.invokestatic 207, 3) := by decide +kernel
theorem dX7_window_54 : decode cX7_window 54 = .ok (.iload_n 3, 1) := by decide +kernel
theorem dX7_window_55 : decode cX7_window 55 = .ok (.invokestatic 207, 3) := by decide +kernel
theorem dX7_window_58 : decode cX7_window 58 = .ok (.if_icmp .ge 7, 3) := by decide +kernel
theorem dX7_window_61 : decode cX7_window 61 = .ok (.iconst 1, 1) := by decide +kernel
theorem dX7_window_62 : decode cX7_window 62 = .ok (.goto 4, 3) := by decide +kernel
theorem dX7_window_65 : decode cX7_window 65 = .ok (.iconst 0, 1) := by decide +kernel
theorem dX7_window_66 : decode cX7_window 66 = .ok (.istore 5, 2) := by decide +kernel
theorem dX7_window_68 : decode cX7_window 68 = .ok (.iload 5, 2) := by decide +kernel
theorem dX7_window_70 : decode cX7_window 70 = .ok (.ifCond .eq 19, 3) := by decide +kernel
theorem dX7_window_73 : decode cX7_window 73 = .ok (.aload_n 0, 1) := by decide +kernel
theorem dX7_window_74 : decode cX7_window 74 = .ok (.getfield 23, 3) := by decide +kernel
theorem dX7_window_77 : decode cX7_window 77 = .ok (.iload 4, 2) := by decide +kernel
theorem dX7_window_79 : decode cX7_window 79 = .ok (.invokevirtual 212, 3) := by decide +kernel
theorem dX7_window_82 : decode cX7_window 82 = .ok (.iload_n 1, 1) := by decide +kernel
theorem dX7_window_83 : decode cX7_window 83 = .ok (.if_icmp .gt 6, 3) := by decide +kernel
theorem dX7_window_86 : decode cX7_window 86 = .ok (.iload 4, 2) := by decide +kernel
theorem dX7_window_88 : decode cX7_window 88 = .ok (.istore_n 3, 1) := by decide +kernel
theorem dX7_window_89 : decode cX7_window 89 = .ok (.iinc 4 1, 3) := by decide +kernel
theorem dX7_window_92 : decode cX7_window 92 = .ok (.goto (-49), 3) := by decide +kernel
theorem dX7_window_95 : decode cX7_window 95 = .ok (.aload_n 0, 1) := by decide +kernel
theorem dX7_window_96 : decode cX7_window 96 = .ok (.iload_n 3, 1) := by decide +kernel
theorem dX7_window_97 : decode cX7_window 97 = .ok (.putfield 82, 3) := by decide +kernel
theorem dX7_window_100 : decode cX7_window 100 = .ok (.iload_n 3, 1) := by decide +kernel
theorem dX7_window_101 : decode cX7_window 101 = .ok (.invokestatic 207, 3) := by decide +kernel
theorem dX7_window_104 : decode cX7_window 104 = .ok (.ireturn, 1) := by decide +kernel
theorem dX7_talks_0 : decode cX7_talks 0 = .ok (.aload_n 0, 1) := by decide +kernel
theorem dX7_talks_1 : decode cX7_talks 1 = .ok (.getfield 13, 3) := by decide +kernel
theorem dX7_talks_4 : decode cX7_talks 4 = .ok (.iload 4, 2) := by decide +kernel
theorem dX7_talks_6 : decode cX7_talks 6 = .ok (.invokestatic 64, 3) := by decide +kernel
theorem dX7_talks_9 : decode cX7_talks 9 = .ok (.astore 5, 2) := by decide +kernel
theorem dX7_talks_11 : decode cX7_talks 11 = .ok (.aload 5, 2) := by decide +kernel
theorem dX7_talks_13 : decode cX7_talks 13 = .ok (.ifnull 32, 3) := by decide +kernel
theorem dX7_talks_16 : decode cX7_talks 16 = .ok (.iload_n 1, 1) := by decide +kernel
theorem dX7_talks_17 : decode cX7_talks 17 = .ok (.invokestatic 167, 3) := by decide +kernel
theorem dX7_talks_20 : decode cX7_talks 20 = .ok (.ifCond .eq 25, 3) := by decide +kernel
theorem dX7_talks_23 : decode cX7_talks 23 = .ok (.aload_n 0, 1) := by decide +kernel
theorem dX7_talks_24 : decode cX7_talks 24 = .ok (.getfield 23, 3) := by decide +kernel
theorem dX7_talks_27 : decode cX7_talks 27 = .ok (.iload_n 2, 1) := by decide +kernel
theorem dX7_talks_28 : decode cX7_talks 28 = .ok (.invokevirtual 161, 3) := by decide +kernel
theorem dX7_talks_31 : decode cX7_talks 31 = .ok (.ifCond .eq 14, 3) := by decide +kernel
theorem dX7_talks_34 : decode cX7_talks 34 = .ok (.iload_n 3, 1) := by decide +kernel
theorem dX7_talks_35 : decode cX7_talks 35 = .ok (.iconst 0, 1) := by decide +kernel
theorem dX7_talks_36 : decode cX7_talks 36 = .ok (.sipush 999, 3) := by decide +kernel
theorem dX7_talks_39 : decode cX7_talks 39 = .ok (.invokestatic 130, 3) := by decide +kernel
theorem dX7_talks_42 : decode cX7_talks 42 = .ok (.ifCond .ne 5, 3) := by decide +kernel
theorem dX7_talks_45 : decode cX7_talks 45 = .ok (.iconst (-1), 1) := by decide +kernel
theorem dX7_talks_46 : decode cX7_talks 46 = .ok (.ireturn, 1) := by decide +kernel
theorem dX7_talks_47 : decode cX7_talks 47 = .ok (.iconst 0, 1) := by decide +kernel
theorem dX7_talks_48 : decode cX7_talks 48 = .ok (.istore 6, 2) := by decide +kernel
theorem dX7_talks_50 : decode cX7_talks 50 = .ok (.iload 6, 2) := by decide +kernel
theorem dX7_talks_52 : decode cX7_talks 52 = .ok (.aload_n 0, 1) := by decide +kernel
theorem dX7_talks_53 : decode cX7_talks 53 = .ok (.getfield 23, 3) := by decide +kernel
theorem dX7_talks_56 : decode cX7_talks 56 = .ok (.getfield 123, 3) := by decide +kernel
theorem dX7_talks_59 : decode cX7_talks 59 = .ok (.if_icmp .ge 27, 3) := by decide +kernel
theorem dX7_talks_62 : decode cX7_talks 62 = .ok (.aload_n 0, 1) := by decide +kernel
theorem dX7_talks_63 : decode cX7_talks 63 = .ok (.getfield 49, 3) := by decide +kernel
theorem dX7_talks_66 : decode cX7_talks 66 = .ok (.iload 6, 2) := by decide +kernel
theorem dX7_talks_68 : decode cX7_talks 68 = .ok (.aload_n 0, 1) := by decide +kernel
theorem dX7_talks_69 : decode cX7_talks 69 = .ok (.getfield 23, 3) := by decide +kernel
theorem dX7_talks_72 : decode cX7_talks 72 = .ok (.iload 6, 2) := by decide +kernel
theorem dX7_talks_74 : decode cX7_talks 74 = .ok (.iload_n 1, 1) := by decide +kernel
theorem dX7_talks_75 : decode cX7_talks 75 = .ok (.iload_n 2, 1) := by decide +kernel
theorem dX7_talks_76 : decode cX7_talks 76 = .ok (.invokevirtual 215, 3) := by decide +kernel
theorem dX7_talks_79 : decode cX7_talks 79 = .ok (.iastore, 1) := by decide +kernel
theorem dX7_talks_80 : decode cX7_talks 80 = .ok (.iinc 6 1, 3) := by decide +kernel
theorem dX7_talks_83 : decode cX7_talks 83 = .ok (.goto (-33), 3) := by decide +kernel
theorem dX7_talks_86 : decode cX7_talks 86 = .ok (.iconst 1, 1) := by decide +kernel
theorem dX7_talks_87 : decode cX7_talks 87 = .ok (.istore 6, 2) := by decide +kernel
theorem dX7_talks_89 : decode cX7_talks 89 = .ok (.iconst 0, 1) := by decide +kernel
theorem dX7_talks_90 : decode cX7_talks 90 = .ok (.istore 7, 2) := by decide +kernel
theorem dX7_talks_92 : decode cX7_talks 92 = .ok (.iload 7, 2) := by decide +kernel
theorem dX7_talks_94 : decode cX7_talks 94 = .ok (.iconst 3, 1) := by decide +kernel
theorem dX7_talks_95 : decode cX7_talks 95 = .ok (.if_icmp .gt 72, 3) := by decide +kernel
theorem dX7_talks_98 : decode cX7_talks 98 = .ok (.iconst 0, 1) := by decide +kernel
theorem dX7_talks_99 : decode cX7_talks 99 = .ok (.istore 8, 2) := by decide +kernel
theorem dX7_talks_101 : decode cX7_talks 101 = .ok (.iload 8, 2) := by decide +kernel
theorem dX7_talks_103 : decode cX7_talks 103 = .ok (.iload 6, 2) := by decide +kernel
theorem dX7_talks_105 : decode cX7_talks 105 = .ok (.if_icmp .ge 44, 3) := by decide +kernel
theorem dX7_talks_108 : decode cX7_talks 108 = .ok (.aload_n 0, 1) := by decide +kernel
theorem dX7_talks_109 : decode cX7_talks 109 = .ok (.getfield 23, 3) := by decide +kernel
theorem dX7_talks_112 : decode cX7_talks 112 = .ok (.getfield 164, 3) := by decide +kernel
theorem dX7_talks_115 : decode cX7_talks 115 = .ok (.iload_n 2, 1) := by decide +kernel
theorem dX7_talks_116 : decode cX7_talks 116 = .ok (.iaload, 1) := by decide +kernel
theorem dX7_talks_117 : decode cX7_talks 117 = .ok (.aload_n 0, 1) := by decide +kernel
theorem dX7_talks_118 : decode cX7_talks 118 = .ok (.iload 8, 2) := by decide +kernel
theorem dX7_talks_120 : decode cX7_talks 120 = .ok (.iload 7, 2) := by decide +kernel
theorem dX7_talks_122 : decode cX7_talks 122 = .ok (.invokevirtual 218, 3) := by decide +kernel
theorem dX7_talks_125 : decode cX7_talks 125 = .ok (.iadd, 1) := by decide +kernel
theorem dX7_talks_126 : decode cX7_talks 126 = .ok (.iload_n 3, 1) := by decide +kernel
theorem dX7_talks_127 : decode cX7_talks 127 = .ok (.if_icmp .lt 16, 3) := by decide +kernel
theorem dX7_talks_130 : decode cX7_talks 130 = .ok (.aload_n 0, 1) := by decide +kernel
theorem dX7_talks_131 : decode cX7_talks 131 = .ok (.aload 5, 2) := by decide +kernel
theorem dX7_talks_133 : decode cX7_talks 133 = .ok (.iload 8, 2) := by decide +kernel
theorem dX7_talks_135 : decode cX7_talks 135 = .ok (.iload 7, 2) := by decide +kernel
theorem dX7_talks_137 : decode cX7_talks 137 = .ok (.invokevirtual 221, 3) := by decide +kernel
theorem dX7_talks_140 : decode cX7_talks 140 = .ok (.iload 7, 2) := by decide +kernel
theorem dX7_talks_142 : decode cX7_talks 142 = .ok (.ireturn, 1) := by decide +kernel
theorem dX7_talks_143 : decode cX7_talks 143 = .ok (.iinc 8 1, 3) := by decide +kernel
theorem dX7_talks_146 : decode cX7_talks 146 = .ok (.goto (-45), 3) := by decide +kernel
theorem dX7_talks_149 : decode cX7_talks 149 = .ok (.iload 6, 2) := by decide +kernel
theorem dX7_talks_151 : decode cX7_talks 151 = .ok (.aload_n 0, 1) := by decide +kernel
theorem dX7_talks_152 : decode cX7_talks 152 = .ok (.getfield 23, 3) := by decide +kernel
theorem dX7_talks_155 : decode cX7_talks 155 = .ok (.getfield 123, 3) := by decide +kernel
theorem dX7_talks_158 : decode cX7_talks 158 = .ok (.imul, 1) := by decide +kernel
theorem dX7_talks_159 : decode cX7_talks 159 = .ok (.istore 6, 2) := by decide +kernel
theorem dX7_talks_161 : decode cX7_talks 161 = .ok (.iinc 7 1, 3) := by decide +kernel
theorem dX7_talks_164 : decode cX7_talks 164 = .ok (.goto (-72), 3) := by decide +kernel
theorem dX7_talks_167 : decode cX7_talks 167 = .ok (.bipush (-9), 2) := by decide +kernel
theorem dX7_talks_169 : decode cX7_talks 169 = .ok (.ireturn, 1) := by decide +kernel
theorem dX7_sets_0 : decode cX7_sets 0 = .ok (.aload_n 0, 1) := by decide +kernel
theorem dX7_sets_1 : decode cX7_sets 1 = .ok (.iload_n 1, 1) := by decide +kernel
theorem dX7_sets_2 : decode cX7_sets 2 = .ok (.iload_n 2, 1) := by decide +kernel
theorem dX7_sets_3 : decode cX7_sets 3 = .ok (.invokevirtual 225, 3) := by decide +kernel
theorem dX7_sets_6 : decode cX7_sets 6 = .ok (.istore_n 3, 1) := by decide +kernel
theorem dX7_sets_7 : decode cX7_sets 7 = .ok (.iload_n 3, 1) := by decide +kernel
theorem dX7_sets_8 : decode cX7_sets 8 = .ok (.ifCond .eq 5, 3) := by decide +kernel
theorem dX7_sets_11 : decode cX7_sets 11 = .ok (.iload_n 3, 1) := by decide +kernel
theorem dX7_sets_12 : decode cX7_sets 12 = .ok (.ireturn, 1) := by decide +kernel
theorem dX7_sets_13 : decode cX7_sets 13 = .ok (.aload_n 0, 1) := by decide +kernel
theorem dX7_sets_14 : decode cX7_sets 14 = .ok (.iload_n 1, 1) := by decide +kernel
theorem dX7_sets_15 : decode cX7_sets 15 = .ok (.invokevirtual 228, 3) := by decide +kernel
theorem dX7_sets_18 : decode cX7_sets 18 = .ok (.aload_n 0, 1) := by decide +kernel
theorem dX7_sets_19 : decode cX7_sets 19 = .ok (.aload_n 0, 1) := by decide +kernel
theorem dX7_sets_20 : decode cX7_sets 20 = .ok (.iconst 0, 1) := by decide +kernel
theorem dX7_sets_21 : decode cX7_sets 21 = .ok (.iload_n 2, 1) := by decide +kernel
theorem dX7_sets_22 : decode cX7_sets 22 = .ok (.invokevirtual 232, 3) := by decide +kernel
theorem dX7_sets_25 : decode cX7_sets 25 = .ok (.i2l, 1) := by decide +kernel
theorem dX7_sets_26 : decode cX7_sets 26 = .ok (.lconst 1, 1) := by decide +kernel
theorem dX7_sets_27 : decode cX7_sets 27 = .ok (.invokevirtual 235, 3) := by decide +kernel
theorem dX7_sets_30 : decode cX7_sets 30 = .ok (.aload_n 0, 1) := by decide +kernel
theorem dX7_sets_31 : decode cX7_sets 31 = .ok (.aload_n 0, 1) := by decide +kernel
theorem dX7_sets_32 : decode cX7_sets 32 = .ok (.iload_n 2, 1) := by decide +kernel
theorem dX7_sets_33 : decode cX7_sets 33 = .ok (.invokevirtual 239, 3) := by decide +kernel
theorem dX7_sets_36 : decode cX7_sets 36 = .ok (.putfield 82, 3) := by decide +kernel
theorem dX7_sets_39 : decode cX7_sets 39 = .ok (.iconst 1, 1) := by decide +kernel
theorem dX7_sets_40 : decode cX7_sets 40 = .ok (.ireturn, 1) := by decide +kernel
theorem dX7_sure_0 : decode cX7_sure 0 = .ok (.aload_n 0, 1) := by decide +kernel
theorem dX7_sure_1 : decode cX7_sure 1 = .ok (.iload_n 1, 1) := by decide +kernel
theorem dX7_sure_2 : decode cX7_sure 2 = .ok (.iload_n 2, 1) := by decide +kernel
theorem dX7_sure_3 : decode cX7_sure 3 = .ok (.invokevirtual 225, 3) := by decide +kernel
theorem dX7_sure_6 : decode cX7_sure 6 = .ok (.istore_n 3, 1) := by decide +kernel
theorem dX7_sure_7 : decode cX7_sure 7 = .ok (.iload_n 3, 1) := by decide +kernel
theorem dX7_sure_8 : decode cX7_sure 8 = .ok (.ifCond .eq 5, 3) := by decide +kernel
theorem dX7_sure_11 : decode cX7_sure 11 = .ok (.iload_n 3, 1) := by decide +kernel
theorem dX7_sure_12 : decode cX7_sure 12 = .ok (.ireturn, 1) := by decide +kernel
theorem dX7_sure_13 : decode cX7_sure 13 = .ok (.aload_n 0, 1) := by decide +kernel
theorem dX7_sure_14 : decode cX7_sure 14 = .ok (.iload_n 1, 1) := by decide +kernel
theorem dX7_sure_15 : decode cX7_sure 15 = .ok (.invokevirtual 228, 3) := by decide +kernel
theorem dX7_sure_18 : decode cX7_sure 18 = .ok (.aload_n 0, 1) := by decide +kernel
theorem dX7_sure_19 : decode cX7_sure 19 = .ok (.iconst 0, 1) := by decide +kernel
theorem dX7_sure_20 : decode cX7_sure 20 = .ok (.iload_n 2, 1) := by decide +kernel
theorem dX7_sure_21 : decode cX7_sure 21 = .ok (.invokevirtual 232, 3) := by decide +kernel
theorem dX7_sure_24 : decode cX7_sure 24 = .ok (.istore 4, 2) := by decide +kernel
theorem dX7_sure_26 : decode cX7_sure 26 = .ok (.iload 4, 2) := by decide +kernel
theorem dX7_sure_28 : decode cX7_sure 28 = .ok (.ifCond .ne 9, 3) := by decide +kernel
theorem dX7_sure_31 : decode cX7_sure 31 = .ok (.aload_n 0, 1) := by decide +kernel
theorem dX7_sure_32 : decode cX7_sure 32 = .ok (.iconst 4, 1) := by decide +kernel
theorem dX7_sure_33 : decode cX7_sure 33 = .ok (.invokevirtual 93, 3) := by decide +kernel
theorem dX7_sure_36 : decode cX7_sure 36 = .ok (.ireturn, 1) := by decide +kernel
theorem dX7_sure_37 : decode cX7_sure 37 = .ok (.iconst 0, 1) := by decide +kernel
theorem dX7_sure_38 : decode cX7_sure 38 = .ok (.istore 5, 2) := by decide +kernel
theorem dX7_sure_40 : decode cX7_sure 40 = .ok (.iconst 0, 1) := by decide +kernel
theorem dX7_sure_41 : decode cX7_sure 41 = .ok (.istore 6, 2) := by decide +kernel
theorem dX7_sure_43 : decode cX7_sure 43 = .ok (.iconst 0, 1) := by decide +kernel
theorem dX7_sure_44 : decode cX7_sure 44 = .ok (.istore 7, 2) := by decide +kernel
theorem dX7_sure_46 : decode cX7_sure 46 = .ok (.iload 7, 2) := by decide +kernel
theorem dX7_sure_48 : decode cX7_sure 48 = .ok (.aload_n 0, 1) := by decide +kernel
theorem dX7_sure_49 : decode cX7_sure 49 = .ok (.getfield 23, 3) := by decide +kernel
theorem dX7_sure_52 : decode cX7_sure 52 = .ok (.getfield 123, 3) := by decide +kernel
theorem dX7_sure_55 : decode cX7_sure 55 = .ok (.if_icmp .ge 50, 3) := by decide +kernel
theorem dX7_sure_58 : decode cX7_sure 58 = .ok (.aload_n 0, 1) := by decide +kernel
theorem dX7_sure_59 : decode cX7_sure 59 = .ok (.iconst 1, 1) := by decide +kernel
theorem dX7_sure_60 : decode cX7_sure 60 = .ok (.iload 7, 2) := by decide +kernel
theorem dX7_sure_62 : decode cX7_sure 62 = .ok (.ishl, 1) := by decide +kernel
theorem dX7_sure_63 : decode cX7_sure 63 = .ok (.iload_n 2, 1) := by decide +kernel
theorem dX7_sure_64 : decode cX7_sure 64 = .ok (.invokevirtual 232, 3) := by decide +kernel
theorem dX7_sure_67 : decode cX7_sure 67 = .ok (.istore 8, 2) := by decide +kernel
theorem dX7_sure_69 : decode cX7_sure 69 = .ok (.iload 8, 2) := by decide +kernel
theorem dX7_sure_71 : decode cX7_sure 71 = .ok (.iload 4, 2) := by decide +kernel
theorem dX7_sure_73 : decode cX7_sure 73 = .ok (.if_icmp .ne 12, 3) := by decide +kernel
theorem dX7_sure_76 : decode cX7_sure 76 = .ok (.iload 5, 2) := by decide +kernel
theorem dX7_sure_78 : decode cX7_sure 78 = .ok (.iconst 1, 1) := by decide +kernel
theorem dX7_sure_79 : decode cX7_sure 79 = .ok (.iload 7, 2) := by decide +kernel
theorem dX7_sure_81 : decode cX7_sure 81 = .ok (.ishl, 1) := by decide +kernel
theorem dX7_sure_82 : decode cX7_sure 82 = .ok (.ior, 1) := by decide +kernel
theorem dX7_sure_83 : decode cX7_sure 83 = .ok (.istore 5, 2) := by decide +kernel
theorem dX7_sure_85 : decode cX7_sure 85 = .ok (.iload 8, 2) := by decide +kernel
theorem dX7_sure_87 : decode cX7_sure 87 = .ok (.ifCond .ne 12, 3) := by decide +kernel
theorem dX7_sure_90 : decode cX7_sure 90 = .ok (.iload 6, 2) := by decide +kernel
theorem dX7_sure_92 : decode cX7_sure 92 = .ok (.iconst 1, 1) := by decide +kernel
theorem dX7_sure_93 : decode cX7_sure 93 = .ok (.iload 7, 2) := by decide +kernel
theorem dX7_sure_95 : decode cX7_sure 95 = .ok (.ishl, 1) := by decide +kernel
theorem dX7_sure_96 : decode cX7_sure 96 = .ok (.ior, 1) := by decide +kernel
theorem dX7_sure_97 : decode cX7_sure 97 = .ok (.istore 6, 2) := by decide +kernel
theorem dX7_sure_99 : decode cX7_sure 99 = .ok (.iinc 7 1, 3) := by decide +kernel
theorem dX7_sure_102 : decode cX7_sure 102 = .ok (.goto (-56), 3) := by decide +kernel
theorem dX7_sure_105 : decode cX7_sure 105 = .ok (.aload_n 0, 1) := by decide +kernel
theorem dX7_sure_106 : decode cX7_sure 106 = .ok (.iload 6, 2) := by decide +kernel
theorem dX7_sure_108 : decode cX7_sure 108 = .ok (.putfield 82, 3) := by decide +kernel
theorem dX7_sure_111 : decode cX7_sure 111 = .ok (.iload 5, 2) := by decide +kernel
theorem dX7_sure_113 : decode cX7_sure 113 = .ok (.ireturn, 1) := by decide +kernel
theorem dX7_ask_0 : decode cX7_ask 0 = .ok (.aload_n 0, 1) := by decide +kernel
theorem dX7_ask_1 : decode cX7_ask 1 = .ok (.iload_n 1, 1) := by decide +kernel
theorem dX7_ask_2 : decode cX7_ask 2 = .ok (.iload_n 2, 1) := by decide +kernel
theorem dX7_ask_3 : decode cX7_ask 3 = .ok (.invokevirtual 225, 3) := by decide +kernel
theorem dX7_ask_6 : decode cX7_ask 6 = .ok (.istore_n 3, 1) := by decide +kernel
theorem dX7_ask_7 : decode cX7_ask 7 = .ok (.iload_n 3, 1) := by decide +kernel
theorem dX7_ask_8 : decode cX7_ask 8 = .ok (.ifCond .eq 5, 3) := by decide +kernel
theorem dX7_ask_11 : decode cX7_ask 11 = .ok (.iload_n 3, 1) := by decide +kernel
theorem dX7_ask_12 : decode cX7_ask 12 = .ok (.ireturn, 1) := by decide +kernel
theorem dX7_ask_13 : decode cX7_ask 13 = .ok (.aload_n 0, 1) := by decide +kernel
theorem dX7_ask_14 : decode cX7_ask 14 = .ok (.iload_n 1, 1) := by decide +kernel
theorem dX7_ask_15 : decode cX7_ask 15 = .ok (.invokevirtual 228, 3) := by decide +kernel
theorem dX7_ask_18 : decode cX7_ask 18 = .ok (.aload_n 0, 1) := by decide +kernel
theorem dX7_ask_19 : decode cX7_ask 19 = .ok (.iconst 0, 1) := by decide +kernel
theorem dX7_ask_20 : decode cX7_ask 20 = .ok (.iload_n 2, 1) := by decide +kernel
theorem dX7_ask_21 : decode cX7_ask 21 = .ok (.invokevirtual 232, 3) := by decide +kernel
theorem dX7_ask_24 : decode cX7_ask 24 = .ok (.istore 4, 2) := by decide +kernel
theorem dX7_ask_26 : decode cX7_ask 26 = .ok (.iload 4, 2) := by decide +kernel
theorem dX7_ask_28 : decode cX7_ask 28 = .ok (.ifCond .ne 9, 3) := by decide +kernel
theorem dX7_ask_31 : decode cX7_ask 31 = .ok (.aload_n 0, 1) := by decide +kernel
theorem dX7_ask_32 : decode cX7_ask 32 = .ok (.iconst 4, 1) := by decide +kernel
theorem dX7_ask_33 : decode cX7_ask 33 = .ok (.invokevirtual 93, 3) := by decide +kernel
theorem dX7_ask_36 : decode cX7_ask 36 = .ok (.ireturn, 1) := by decide +kernel
theorem dX7_ask_37 : decode cX7_ask 37 = .ok (.iconst 0, 1) := by decide +kernel
theorem dX7_ask_38 : decode cX7_ask 38 = .ok (.istore 5, 2) := by decide +kernel
theorem dX7_ask_40 : decode cX7_ask 40 = .ok (.iload 4, 2) := by decide +kernel
theorem dX7_ask_42 : decode cX7_ask 42 = .ok (.iconst 1, 1) := by decide +kernel
theorem dX7_ask_43 : decode cX7_ask 43 = .ok (.iadd, 1) := by decide +kernel
theorem dX7_ask_44 : decode cX7_ask 44 = .ok (.istore 6, 2) := by decide +kernel
theorem dX7_ask_46 : decode cX7_ask 46 = .ok (.iconst 0, 1) := by decide +kernel
theorem dX7_ask_47 : decode cX7_ask 47 = .ok (.istore 7, 2) := by decide +kernel
theorem dX7_ask_49 : decode cX7_ask 49 = .ok (.iload 7, 2) := by decide +kernel
theorem dX7_ask_51 : decode cX7_ask 51 = .ok (.aload_n 0, 1) := by decide +kernel
theorem dX7_ask_52 : decode cX7_ask 52 = .ok (.getfield 23, 3) := by decide +kernel
theorem dX7_ask_55 : decode cX7_ask 55 = .ok (.getfield 123, 3) := by decide +kernel
theorem dX7_ask_58 : decode cX7_ask 58 = .ok (.if_icmp .ge 47, 3) := by decide +kernel
theorem dX7_ask_61 : decode cX7_ask 61 = .ok (.aload_n 0, 1) := by decide +kernel
theorem dX7_ask_62 : decode cX7_ask 62 = .ok (.iconst 1, 1) := by decide +kernel
theorem dX7_ask_63 : decode cX7_ask 63 = .ok (.iload 7, 2) := by decide +kernel
theorem dX7_ask_65 : decode cX7_ask 65 = .ok (.ishl, 1) := by decide +kernel
theorem dX7_ask_66 : decode cX7_ask 66 = .ok (.iload_n 2, 1) := by decide +kernel
theorem dX7_ask_67 : decode cX7_ask 67 = .ok (.invokevirtual 232, 3) := by decide +kernel
theorem dX7_ask_70 : decode cX7_ask 70 = .ok (.istore 8, 2) := by decide +kernel
theorem dX7_ask_72 : decode cX7_ask 72 = .ok (.iload 8, 2) := by decide +kernel
theorem dX7_ask_74 : decode cX7_ask 74 = .ok (.iload 4, 2) := by decide +kernel
theorem dX7_ask_76 : decode cX7_ask 76 = .ok (.iload 8, 2) := by decide +kernel
theorem dX7_ask_78 : decode cX7_ask 78 = .ok (.isub, 1) := by decide +kernel
theorem dX7_ask_79 : decode cX7_ask 79 = .ok (.invokestatic 242, 3) := by decide +kernel
theorem dX7_ask_82 : decode cX7_ask 82 = .ok (.istore 9, 2) := by decide +kernel
theorem dX7_ask_84 : decode cX7_ask 84 = .ok (.iload 9, 2) := by decide +kernel
theorem dX7_ask_86 : decode cX7_ask 86 = .ok (.iload 6, 2) := by decide +kernel
theorem dX7_ask_88 : decode cX7_ask 88 = .ok (.if_icmp .ge 11, 3) := by decide +kernel
theorem dX7_ask_91 : decode cX7_ask 91 = .ok (.iload 9, 2) := by decide +kernel
theorem dX7_ask_93 : decode cX7_ask 93 = .ok (.istore 6, 2) := by decide +kernel
theorem dX7_ask_95 : decode cX7_ask 95 = .ok (.iload 7, 2) := by decide +kernel
theorem dX7_ask_97 : decode cX7_ask 97 = .ok (.istore 5, 2) := by decide +kernel
theorem dX7_ask_99 : decode cX7_ask 99 = .ok (.iinc 7 1, 3) := by decide +kernel
theorem dX7_ask_102 : decode cX7_ask 102 = .ok (.goto (-53), 3) := by decide +kernel
theorem dX7_ask_105 : decode cX7_ask 105 = .ok (.aload_n 0, 1) := by decide +kernel
theorem dX7_ask_106 : decode cX7_ask 106 = .ok (.iload 6, 2) := by decide +kernel
theorem dX7_ask_108 : decode cX7_ask 108 = .ok (.putfield 82, 3) := by decide +kernel
theorem dX7_ask_111 : decode cX7_ask 111 = .ok (.iload 5, 2) := by decide +kernel
theorem dX7_ask_113 : decode cX7_ask 113 = .ok (.ireturn, 1) := by decide +kernel
theorem dX7_who_0 : decode cX7_who 0 = .ok (.aload_n 0, 1) := by decide +kernel
theorem dX7_who_1 : decode cX7_who 1 = .ok (.getfield 13, 3) := by decide +kernel
theorem dX7_who_4 : decode cX7_who 4 = .ok (.iload_n 1, 1) := by decide +kernel
theorem dX7_who_5 : decode cX7_who 5 = .ok (.invokestatic 64, 3) := by decide +kernel
theorem dX7_who_8 : decode cX7_who 8 = .ok (.astore_n 2, 1) := by decide +kernel
theorem dX7_who_9 : decode cX7_who 9 = .ok (.aload_n 2, 1) := by decide +kernel
theorem dX7_who_10 : decode cX7_who 10 = .ok (.ifnonnull 5, 3) := by decide +kernel
theorem dX7_who_13 : decode cX7_who 13 = .ok (.iconst (-1), 1) := by decide +kernel
theorem dX7_who_14 : decode cX7_who 14 = .ok (.ireturn, 1) := by decide +kernel
theorem dX7_who_15 : decode cX7_who 15 = .ok (.aload_n 0, 1) := by decide +kernel
theorem dX7_who_16 : decode cX7_who 16 = .ok (.aload_n 2, 1) := by decide +kernel
theorem dX7_who_17 : decode cX7_who 17 = .ok (.invokevirtual 247, 3) := by decide +kernel
theorem dX7_who_20 : decode cX7_who 20 = .ok (.istore_n 3, 1) := by decide +kernel
theorem dX7_who_21 : decode cX7_who 21 = .ok (.iload_n 3, 1) := by decide +kernel
theorem dX7_who_22 : decode cX7_who 22 = .ok (.ifCond .eq 5, 3) := by decide +kernel
theorem dX7_who_25 : decode cX7_who 25 = .ok (.iload_n 3, 1) := by decide +kernel
theorem dX7_who_26 : decode cX7_who 26 = .ok (.ireturn, 1) := by decide +kernel
theorem dX7_who_27 : decode cX7_who 27 = .ok (.iconst 0, 1) := by decide +kernel
theorem dX7_who_28 : decode cX7_who 28 = .ok (.istore 4, 2) := by decide +kernel
theorem dX7_who_30 : decode cX7_who 30 = .ok (.iconst 0, 1) := by decide +kernel
theorem dX7_who_31 : decode cX7_who 31 = .ok (.istore 5, 2) := by decide +kernel
theorem dX7_who_33 : decode cX7_who 33 = .ok (.iload 5, 2) := by decide +kernel
theorem dX7_who_35 : decode cX7_who 35 = .ok (.aload_n 0, 1) := by decide +kernel
theorem dX7_who_36 : decode cX7_who 36 = .ok (.getfield 23, 3) := by decide +kernel
theorem dX7_who_39 : decode cX7_who 39 = .ok (.getfield 123, 3) := by decide +kernel
theorem dX7_who_42 : decode cX7_who 42 = .ok (.if_icmp .ge 35, 3) := by decide +kernel
theorem dX7_who_45 : decode cX7_who 45 = .ok (.aload_n 2, 1) := by decide +kernel
theorem dX7_who_46 : decode cX7_who 46 = .ok (.aload_n 0, 1) := by decide +kernel
theorem dX7_who_47 : decode cX7_who 47 = .ok (.getfield 23, 3) := by decide +kernel
theorem dX7_who_50 : decode cX7_who 50 = .ok (.getfield 140, 3) := by decide +kernel
theorem dX7_who_53 : decode cX7_who 53 = .ok (.iload 5, 2) := by decide +kernel
theorem dX7_who_55 : decode cX7_who 55 = .ok (.iaload, 1) := by decide +kernel
theorem dX7_who_56 : decode cX7_who 56 = .ok (.invokestatic 250, 3) := by decide +kernel
