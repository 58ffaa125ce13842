theorem dX0_init_0 : decode cX0_init 0 = .ok (.aload_n 0, 1) := by decide +kernel
theorem dX0_init_1 : decode cX0_init 1 = .ok (.invokespecial 3, 3) := by decide +kernel
theorem dX0_init_4 : decode cX0_init 4 = .ok (.aload_n 0, 1) := by decide +kernel
theorem dX0_init_5 : decode cX0_init 5 = .ok (.bipush 6, 2) := by decide +kernel
theorem dX0_init_7 : decode cX0_init 7 = .ok (.newarray .int, 2) := by decide +kernel
theorem dX0_init_9 : decode cX0_init 9 = .ok (.putfield 9, 3) := by decide +kernel
theorem dX0_init_12 : decode cX0_init 12 = .ok (.aload_n 0, 1) := by decide +kernel
theorem dX0_init_13 : decode cX0_init 13 = .ok (.bipush 6, 2) := by decide +kernel
theorem dX0_init_15 : decode cX0_init 15 = .ok (.newarray .int, 2) := by decide +kernel
theorem dX0_init_17 : decode cX0_init 17 = .ok (.putfield 15, 3) := by decide +kernel
theorem dX0_init_20 : decode cX0_init 20 = .ok (.aload_n 0, 1) := by decide +kernel
theorem dX0_init_21 : decode cX0_init 21 = .ok (.bipush 6, 2) := by decide +kernel
theorem dX0_init_23 : decode cX0_init 23 = .ok (.newarray .int, 2) := by decide +kernel
theorem dX0_init_25 : decode cX0_init 25 = .ok (.putfield 18, 3) := by decide +kernel
theorem dX0_init_28 : decode cX0_init 28 = .ok (.aload_n 0, 1) := by decide +kernel
theorem dX0_init_29 : decode cX0_init 29 = .ok (.bipush 8, 2) := by decide +kernel
theorem dX0_init_31 : decode cX0_init 31 = .ok (.newarray .int, 2) := by decide +kernel
theorem dX0_init_33 : decode cX0_init 33 = .ok (.putfield 21, 3) := by decide +kernel
theorem dX0_init_36 : decode cX0_init 36 = .ok (.return_, 1) := by decide +kernel
theorem dX0_hasMember_0 : decode cX0_hasMember 0 = .ok (.iload_n 1, 1) := by decide +kernel
theorem dX0_hasMember_1 : decode cX0_hasMember 1 = .ok (.ifCond .lt 15, 3) := by decide +kernel
theorem dX0_hasMember_4 : decode cX0_hasMember 4 = .ok (.iload_n 1, 1) := by decide +kernel
theorem dX0_hasMember_5 : decode cX0_hasMember 5 = .ok (.aload_n 0, 1) := by decide +kernel
theorem dX0_hasMember_6 : decode cX0_hasMember 6 = .ok (.getfield 24, 3) := by decide +kernel
theorem dX0_hasMember_9 : decode cX0_hasMember 9 = .ok (.if_icmp .ge 7, 3) := by decide +kernel
theorem dX0_hasMember_12 : decode cX0_hasMember 12 = .ok (.iconst 1, 1) := by decide +kernel
theorem dX0_hasMember_13 : decode cX0_hasMember 13 = .ok (.goto 4, 3) := by decide +kernel
theorem dX0_hasMember_16 : decode cX0_hasMember 16 = .ok (.iconst 0, 1) := by decide +kernel
theorem dX0_hasMember_17 : decode cX0_hasMember 17 = .ok (.ireturn, 1) := by decide +kernel
theorem dX0_hasCell_0 : decode cX0_hasCell 0 = .ok (.iload_n 1, 1) := by decide +kernel
theorem dX0_hasCell_1 : decode cX0_hasCell 1 = .ok (.ifCond .lt 15, 3) := by decide +kernel
theorem dX0_hasCell_4 : decode cX0_hasCell 4 = .ok (.iload_n 1, 1) := by decide +kernel
theorem dX0_hasCell_5 : decode cX0_hasCell 5 = .ok (.aload_n 0, 1) := by decide +kernel
theorem dX0_hasCell_6 : decode cX0_hasCell 6 = .ok (.getfield 28, 3) := by decide +kernel
theorem dX0_hasCell_9 : decode cX0_hasCell 9 = .ok (.if_icmp .ge 7, 3) := by decide +kernel
theorem dX0_hasCell_12 : decode cX0_hasCell 12 = .ok (.iconst 1, 1) := by decide +kernel
theorem dX0_hasCell_13 : decode cX0_hasCell 13 = .ok (.goto 4, 3) := by decide +kernel
theorem dX0_hasCell_16 : decode cX0_hasCell 16 = .ok (.iconst 0, 1) := by decide +kernel
theorem dX0_hasCell_17 : decode cX0_hasCell 17 = .ok (.ireturn, 1) := by decide +kernel
theorem dX0_join_0 : decode cX0_join 0 = .ok (.aload_n 0, 1) := by decide +kernel
theorem dX0_join_1 : decode cX0_join 1 = .ok (.getfield 24, 3) := by decide +kernel
theorem dX0_join_4 : decode cX0_join 4 = .ok (.bipush 6, 2) := by decide +kernel
theorem dX0_join_6 : decode cX0_join 6 = .ok (.if_icmp .ge 23, 3) := by decide +kernel
theorem dX0_join_9 : decode cX0_join 9 = .ok (.aload_n 0, 1) := by decide +kernel
theorem dX0_join_10 : decode cX0_join 10 = .ok (.getfield 9, 3) := by decide +kernel
theorem dX0_join_13 : decode cX0_join 13 = .ok (.aload_n 0, 1) := by decide +kernel
theorem dX0_join_14 : decode cX0_join 14 = .ok (.getfield 24, 3) := by decide +kernel
theorem dX0_join_17 : decode cX0_join 17 = .ok (.iload_n 1, 1) := by decide +kernel
theorem dX0_join_18 : decode cX0_join 18 = .ok (.iastore, 1) := by decide +kernel
theorem dX0_join_19 : decode cX0_join 19 = .ok (.aload_n 0, 1) := by decide +kernel
theorem dX0_join_20 : decode cX0_join 20 = .ok (.dup, 1) := by decide +kernel
theorem dX0_join_21 : decode cX0_join 21 = .ok (.getfield 24, 3) := by decide +kernel
theorem dX0_join_24 : decode cX0_join 24 = .ok (.iconst 1, 1) := by decide +kernel
theorem dX0_join_25 : decode cX0_join 25 = .ok (.iadd, 1) := by decide +kernel
theorem dX0_join_26 : decode cX0_join 26 = .ok (.putfield 24, 3) := by decide +kernel
theorem dX0_join_29 : decode cX0_join 29 = .ok (.return_, 1) := by decide +kernel
theorem dX0_seat_0 : decode cX0_seat 0 = .ok (.aload_n 0, 1) := by decide +kernel
theorem dX0_seat_1 : decode cX0_seat 1 = .ok (.getfield 24, 3) := by decide +kernel
theorem dX0_seat_4 : decode cX0_seat 4 = .ok (.ifCond .le 23, 3) := by decide +kernel
theorem dX0_seat_7 : decode cX0_seat 7 = .ok (.aload_n 0, 1) := by decide +kernel
theorem dX0_seat_8 : decode cX0_seat 8 = .ok (.iload_n 1, 1) := by decide +kernel
theorem dX0_seat_9 : decode cX0_seat 9 = .ok (.invokevirtual 31, 3) := by decide +kernel
theorem dX0_seat_12 : decode cX0_seat 12 = .ok (.ifCond .eq 15, 3) := by decide +kernel
theorem dX0_seat_15 : decode cX0_seat 15 = .ok (.aload_n 0, 1) := by decide +kernel
theorem dX0_seat_16 : decode cX0_seat 16 = .ok (.getfield 15, 3) := by decide +kernel
theorem dX0_seat_19 : decode cX0_seat 19 = .ok (.aload_n 0, 1) := by decide +kernel
theorem dX0_seat_20 : decode cX0_seat 20 = .ok (.getfield 24, 3) := by decide +kernel
theorem dX0_seat_23 : decode cX0_seat 23 = .ok (.iconst 1, 1) := by decide +kernel
theorem dX0_seat_24 : decode cX0_seat 24 = .ok (.isub, 1) := by decide +kernel
theorem dX0_seat_25 : decode cX0_seat 25 = .ok (.iload_n 1, 1) := by decide +kernel
theorem dX0_seat_26 : decode cX0_seat 26 = .ok (.iastore, 1) := by decide +kernel
theorem dX0_seat_27 : decode cX0_seat 27 = .ok (.return_, 1) := by decide +kernel
theorem dX0_freshen_0 : decode cX0_freshen 0 = .ok (.aload_n 0, 1) := by decide +kernel
theorem dX0_freshen_1 : decode cX0_freshen 1 = .ok (.iconst 0, 1) := by decide +kernel
theorem dX0_freshen_2 : decode cX0_freshen 2 = .ok (.putfield 35, 3) := by decide +kernel
theorem dX0_freshen_5 : decode cX0_freshen 5 = .ok (.aload_n 0, 1) := by decide +kernel
theorem dX0_freshen_6 : decode cX0_freshen 6 = .ok (.iconst 0, 1) := by decide +kernel
theorem dX0_freshen_7 : decode cX0_freshen 7 = .ok (.putfield 38, 3) := by decide +kernel
theorem dX0_freshen_10 : decode cX0_freshen 10 = .ok (.aload_n 0, 1) := by decide +kernel
theorem dX0_freshen_11 : decode cX0_freshen 11 = .ok (.iconst 0, 1) := by decide +kernel
theorem dX0_freshen_12 : decode cX0_freshen 12 = .ok (.putfield 41, 3) := by decide +kernel
theorem dX0_freshen_15 : decode cX0_freshen 15 = .ok (.iconst 0, 1) := by decide +kernel
theorem dX0_freshen_16 : decode cX0_freshen 16 = .ok (.istore_n 1, 1) := by decide +kernel
theorem dX0_freshen_17 : decode cX0_freshen 17 = .ok (.iload_n 1, 1) := by decide +kernel
theorem dX0_freshen_18 : decode cX0_freshen 18 = .ok (.bipush 6, 2) := by decide +kernel
theorem dX0_freshen_20 : decode cX0_freshen 20 = .ok (.if_icmp .ge 16, 3) := by decide +kernel
theorem dX0_freshen_23 : decode cX0_freshen 23 = .ok (.aload_n 0, 1) := by decide +kernel
theorem dX0_freshen_24 : decode cX0_freshen 24 = .ok (.getfield 18, 3) := by decide +kernel
theorem dX0_freshen_27 : decode cX0_freshen 27 = .ok (.iload_n 1, 1) := by decide +kernel
theorem dX0_freshen_28 : decode cX0_freshen 28 = .ok (.iconst 0, 1) := by decide +kernel
theorem dX0_freshen_29 : decode cX0_freshen 29 = .ok (.iastore, 1) := by decide +kernel
theorem dX0_freshen_30 : decode cX0_freshen 30 = .ok (.iinc 1 1, 3) := by decide +kernel
theorem dX0_freshen_33 : decode cX0_freshen 33 = .ok (.goto (-16), 3) := by decide +kernel
theorem dX0_freshen_36 : decode cX0_freshen 36 = .ok (.iconst 0, 1) := by decide +kernel
theorem dX0_freshen_37 : decode cX0_freshen 37 = .ok (.istore_n 1, 1) := by decide +kernel
theorem dX0_freshen_38 : decode cX0_freshen 38 = .ok (.iload_n 1, 1) := by decide +kernel
theorem dX0_freshen_39 : decode cX0_freshen 39 = .ok (.bipush 8, 2) := by decide +kernel
theorem dX0_freshen_41 : decode cX0_freshen 41 = .ok (.if_icmp .ge 16, 3) := by decide +kernel
theorem dX0_freshen_44 : decode cX0_freshen 44 = .ok (.aload_n 0, 1) := by decide +kernel
theorem dX0_freshen_45 : decode cX0_freshen 45 = .ok (.getfield 21, 3) := by decide +kernel
theorem dX0_freshen_48 : decode cX0_freshen 48 = .ok (.iload_n 1, 1) := by decide +kernel
theorem dX0_freshen_49 : decode cX0_freshen 49 = .ok (.iconst 0, 1) := by decide +kernel
theorem dX0_freshen_50 : decode cX0_freshen 50 = .ok (.iastore, 1) := by decide +kernel
theorem dX0_freshen_51 : decode cX0_freshen 51 = .ok (.iinc 1 1, 3) := by decide +kernel
theorem dX0_freshen_54 : decode cX0_freshen 54 = .ok (.goto (-16), 3) := by decide +kernel
theorem dX0_freshen_57 : decode cX0_freshen 57 = .ok (.return_, 1) := by decide +kernel
theorem dX0_behind_0 : decode cX0_behind 0 = .ok (.iload_n 1, 1) := by decide +kernel
theorem dX0_behind_1 : decode cX0_behind 1 = .ok (.iconst 1, 1) := by decide +kernel
theorem dX0_behind_2 : decode cX0_behind 2 = .ok (.iadd, 1) := by decide +kernel
theorem dX0_behind_3 : decode cX0_behind 3 = .ok (.aload_n 0, 1) := by decide +kernel
theorem dX0_behind_4 : decode cX0_behind 4 = .ok (.getfield 28, 3) := by decide +kernel
theorem dX0_behind_7 : decode cX0_behind 7 = .ok (.if_icmp .ge 9, 3) := by decide +kernel
theorem dX0_behind_10 : decode cX0_behind 10 = .ok (.iload_n 1, 1) := by decide +kernel
theorem dX0_behind_11 : decode cX0_behind 11 = .ok (.iconst 1, 1) := by decide +kernel
theorem dX0_behind_12 : decode cX0_behind 12 = .ok (.iadd, 1) := by decide +kernel
theorem dX0_behind_13 : decode cX0_behind 13 = .ok (.goto 4, 3) := by decide +kernel
theorem dX0_behind_16 : decode cX0_behind 16 = .ok (.iconst 0, 1) := by decide +kernel
theorem dX0_behind_17 : decode cX0_behind 17 = .ok (.ireturn, 1) := by decide +kernel
theorem dX0_ahead_0 : decode cX0_ahead 0 = .ok (.iload_n 1, 1) := by decide +kernel
theorem dX0_ahead_1 : decode cX0_ahead 1 = .ok (.ifCond .le 9, 3) := by decide +kernel
theorem dX0_ahead_4 : decode cX0_ahead 4 = .ok (.iload_n 1, 1) := by decide +kernel
theorem dX0_ahead_5 : decode cX0_ahead 5 = .ok (.iconst 1, 1) := by decide +kernel
theorem dX0_ahead_6 : decode cX0_ahead 6 = .ok (.isub, 1) := by decide +kernel
theorem dX0_ahead_7 : decode cX0_ahead 7 = .ok (.goto 9, 3) := by decide +kernel
theorem dX0_ahead_10 : decode cX0_ahead 10 = .ok (.aload_n 0, 1) := by decide +kernel
theorem dX0_ahead_11 : decode cX0_ahead 11 = .ok (.getfield 28, 3) := by decide +kernel
theorem dX0_ahead_14 : decode cX0_ahead 14 = .ok (.iconst 1, 1) := by decide +kernel
theorem dX0_ahead_15 : decode cX0_ahead 15 = .ok (.isub, 1) := by decide +kernel
theorem dX0_ahead_16 : decode cX0_ahead 16 = .ok (.ireturn, 1) := by decide +kernel
theorem dX0_share_0 : decode cX0_share 0 = .ok (.aload_n 0, 1) := by decide +kernel
theorem dX0_share_1 : decode cX0_share 1 = .ok (.getfield 9, 3) := by decide +kernel
theorem dX0_share_4 : decode cX0_share 4 = .ok (.iload_n 1, 1) := by decide +kernel
theorem dX0_share_5 : decode cX0_share 5 = .ok (.iaload, 1) := by decide +kernel
theorem dX0_share_6 : decode cX0_share 6 = .ok (.iload_n 2, 1) := by decide +kernel
theorem dX0_share_7 : decode cX0_share 7 = .ok (.invokestatic 44, 3) := by decide +kernel
theorem dX0_share_10 : decode cX0_share 10 = .ok (.istore 4, 2) := by decide +kernel
theorem dX0_share_12 : decode cX0_share 12 = .ok (.aload_n 0, 1) := by decide +kernel
theorem dX0_share_13 : decode cX0_share 13 = .ok (.getfield 9, 3) := by decide +kernel
theorem dX0_share_16 : decode cX0_share 16 = .ok (.iload_n 1, 1) := by decide +kernel
theorem dX0_share_17 : decode cX0_share 17 = .ok (.iaload, 1) := by decide +kernel
theorem dX0_share_18 : decode cX0_share 18 = .ok (.iconst 1, 1) := by decide +kernel
theorem dX0_share_19 : decode cX0_share 19 = .ok (.invokestatic 50, 3) := by decide +kernel
theorem dX0_share_22 : decode cX0_share 22 = .ok (.ifCond .ne 20, 3) := by decide +kernel
theorem dX0_share_25 : decode cX0_share 25 = .ok (.iload_n 3, 1) := by decide +kernel
theorem dX0_share_26 : decode cX0_share 26 = .ok (.aload_n 0, 1) := by decide +kernel
theorem dX0_share_27 : decode cX0_share 27 = .ok (.getfield 15, 3) := by decide +kernel
theorem dX0_share_30 : decode cX0_share 30 = .ok (.iload_n 1, 1) := by decide +kernel
theorem dX0_share_31 : decode cX0_share 31 = .ok (.iaload, 1) := by decide +kernel
theorem dX0_share_32 : decode cX0_share 32 = .ok (.if_icmp .ne 8, 3) := by decide +kernel
theorem dX0_share_35 : decode cX0_share 35 = .ok (.iload 4, 2) := by decide +kernel
theorem dX0_share_37 : decode cX0_share 37 = .ok (.goto 4, 3) := by decide +kernel
theorem dX0_share_40 : decode cX0_share 40 = .ok (.iconst 0, 1) := by decide +kernel
theorem dX0_share_41 : decode cX0_share 41 = .ok (.ireturn, 1) := by decide +kernel
theorem dX0_share_42 : decode cX0_share 42 = .ok (.iload 4, 2) := by decide +kernel
theorem dX0_share_44 : decode cX0_share 44 = .ok (.iconst 2, 1) := by decide +kernel
theorem dX0_share_45 : decode cX0_share 45 = .ok (.idiv, 1) := by decide +kernel
theorem dX0_share_46 : decode cX0_share 46 = .ok (.istore 5, 2) := by decide +kernel
theorem dX0_share_48 : decode cX0_share 48 = .ok (.iload 4, 2) := by decide +kernel
theorem dX0_share_50 : decode cX0_share 50 = .ok (.iload 5, 2) := by decide +kernel
theorem dX0_share_52 : decode cX0_share 52 = .ok (.isub, 1) := by decide +kernel
theorem dX0_share_53 : decode cX0_share 53 = .ok (.iconst 2, 1) := by decide +kernel
theorem dX0_share_54 : decode cX0_share 54 = .ok (.idiv, 1) := by decide +kernel
theorem dX0_share_55 : decode cX0_share 55 = .ok (.istore 6, 2) := by decide +kernel
theorem dX0_share_57 : decode cX0_share 57 = .ok (.iload_n 3, 1) := by decide +kernel
theorem dX0_share_58 : decode cX0_share 58 = .ok (.aload_n 0, 1) := by decide +kernel
theorem dX0_share_59 : decode cX0_share 59 = .ok (.getfield 15, 3) := by decide +kernel
theorem dX0_share_62 : decode cX0_share 62 = .ok (.iload_n 1, 1) := by decide +kernel
theorem dX0_share_63 : decode cX0_share 63 = .ok (.iaload, 1) := by decide +kernel
theorem dX0_share_64 : decode cX0_share 64 = .ok (.if_icmp .ne 6, 3) := by decide +kernel
theorem dX0_share_67 : decode cX0_share 67 = .ok (.iload 5, 2) := by decide +kernel
theorem dX0_share_69 : decode cX0_share 69 = .ok (.ireturn, 1) := by decide +kernel
theorem dX0_share_70 : decode cX0_share 70 = .ok (.iload_n 3, 1) := by decide +kernel
theorem dX0_share_71 : decode cX0_share 71 = .ok (.aload_n 0, 1) := by decide +kernel
theorem dX0_share_72 : decode cX0_share 72 = .ok (.aload_n 0, 1) := by decide +kernel
theorem dX0_share_73 : decode cX0_share 73 = .ok (.getfield 15, 3) := by decide +kernel
theorem dX0_share_76 : decode cX0_share 76 = .ok (.iload_n 1, 1) := by decide +kernel
theorem dX0_share_77 : decode cX0_share 77 = .ok (.iaload, 1) := by decide +kernel
theorem dX0_share_78 : decode cX0_share 78 = .ok (.invokevirtual 54, 3) := by decide +kernel
theorem dX0_share_81 : decode cX0_share 81 = .ok (.if_icmp .ne 6, 3) := by decide +kernel
theorem dX0_share_84 : decode cX0_share 84 = .ok (.iload 6, 2) := by decide +kernel
theorem dX0_share_86 : decode cX0_share 86 = .ok (.ireturn, 1) := by decide +kernel
theorem dX0_share_87 : decode cX0_share 87 = .ok (.iload_n 3, 1) := by decide +kernel
theorem dX0_share_88 : decode cX0_share 88 = .ok (.aload_n 0, 1) := by decide +kernel
theorem dX0_share_89 : decode cX0_share 89 = .ok (.aload_n 0, 1) := by decide +kernel
theorem dX0_share_90 : decode cX0_share 90 = .ok (.getfield 15, 3) := by decide +kernel
theorem dX0_share_93 : decode cX0_share 93 = .ok (.iload_n 1, 1) := by decide +kernel
theorem dX0_share_94 : decode cX0_share 94 = .ok (.iaload, 1) := by decide +kernel
theorem dX0_share_95 : decode cX0_share 95 = .ok (.invokevirtual 58, 3) := by decide +kernel
theorem dX0_share_98 : decode cX0_share 98 = .ok (.if_icmp .ne 14, 3) := by decide +kernel
theorem dX0_share_101 : decode cX0_share 101 = .ok (.iload 4, 2) := by decide +kernel
theorem dX0_share_103 : decode cX0_share 103 = .ok (.iload 5, 2) := by decide +kernel
theorem dX0_share_105 : decode cX0_share 105 = .ok (.isub, 1) := by decide +kernel
theorem dX0_share_106 : decode cX0_share 106 = .ok (.iload 6, 2) := by decide +kernel
theorem dX0_share_108 : decode cX0_share 108 = .ok (.isub, 1) := by decide +kernel
theorem dX0_share_109 : decode cX0_share 109 = .ok (.goto 4, 3) := by decide +kernel
theorem dX0_share_112 : decode cX0_share 112 = .ok (.iconst 0, 1) := by decide +kernel
theorem dX0_share_113 : decode cX0_share 113 = .ok (.ireturn, 1) := by decide +kernel
theorem dX0_breatheInto_0 : decode cX0_breatheInto 0 = .ok (.iconst 0, 1) := by decide +kernel
theorem dX0_breatheInto_1 : decode cX0_breatheInto 1 = .ok (.istore 4, 2) := by decide +kernel
theorem dX0_breatheInto_3 : decode cX0_breatheInto 3 = .ok (.iload 4, 2) := by decide +kernel
theorem dX0_breatheInto_5 : decode cX0_breatheInto 5 = .ok (.aload_n 0, 1) := by decide +kernel
theorem dX0_breatheInto_6 : decode cX0_breatheInto 6 = .ok (.getfield 28, 3) := by decide +kernel
theorem dX0_breatheInto_9 : decode cX0_breatheInto 9 = .ok (.if_icmp .ge 39, 3) := by decide +kernel
theorem dX0_breatheInto_12 : decode cX0_breatheInto 12 = .ok (.iload 4, 2) := by decide +kernel
theorem dX0_breatheInto_14 : decode cX0_breatheInto 14 = .ok (.aload_n 1, 1) := by decide +kernel
theorem dX0_breatheInto_15 : decode cX0_breatheInto 15 = .ok (.arraylength, 1) := by decide +kernel
theorem dX0_breatheInto_16 : decode cX0_breatheInto 16 = .ok (.if_icmp .ge 32, 3) := by decide +kernel
theorem dX0_breatheInto_19 : decode cX0_breatheInto 19 = .ok (.aload_n 1, 1) := by decide +kernel
theorem dX0_breatheInto_20 : decode cX0_breatheInto 20 = .ok (.iload 4, 2) := by decide +kernel
theorem dX0_breatheInto_22 : decode cX0_breatheInto 22 = .ok (.sipush 999, 3) := by decide +kernel
theorem dX0_breatheInto_25 : decode cX0_breatheInto 25 = .ok (.aload_n 1, 1) := by decide +kernel
theorem dX0_breatheInto_26 : decode cX0_breatheInto 26 = .ok (.iload 4, 2) := by decide +kernel
theorem dX0_breatheInto_28 : decode cX0_breatheInto 28 = .ok (.iaload, 1) := by decide +kernel
theorem dX0_breatheInto_29 : decode cX0_breatheInto 29 = .ok (.aload_n 0, 1) := by decide +kernel
theorem dX0_breatheInto_30 : decode cX0_breatheInto 30 = .ok (.iload_n 2, 1) := by decide +kernel
theorem dX0_breatheInto_31 : decode cX0_breatheInto 31 = .ok (.iload_n 3, 1) := by decide +kernel
theorem dX0_breatheInto_32 : decode cX0_breatheInto 32 = .ok (.iload 4, 2) := by decide +kernel
theorem dX0_breatheInto_34 : decode cX0_breatheInto 34 = .ok (.invokevirtual 61, 3) := by decide +kernel
theorem dX0_breatheInto_37 : decode cX0_breatheInto 37 = .ok (.iadd, 1) := by decide +kernel
theorem dX0_breatheInto_38 : decode cX0_breatheInto 38 = .ok (.invokestatic 65, 3) := by decide +kernel
theorem dX0_breatheInto_41 : decode cX0_breatheInto 41 = .ok (.iastore, 1) := by decide +kernel
theorem dX0_breatheInto_42 : decode cX0_breatheInto 42 = .ok (.iinc 4 1, 3) := by decide +kernel
theorem dX0_breatheInto_45 : decode cX0_breatheInto 45 = .ok (.goto (-42), 3) := by decide +kernel
theorem dX0_breatheInto_48 : decode cX0_breatheInto 48 = .ok (.return_, 1) := by decide +kernel
theorem dX0_letTalk_0 : decode cX0_letTalk 0 = .ok (.aload_n 0, 1) := by decide +kernel
theorem dX0_letTalk_1 : decode cX0_letTalk 1 = .ok (.iload_n 1, 1) := by decide +kernel
theorem dX0_letTalk_2 : decode cX0_letTalk 2 = .ok (.invokevirtual 70, 3) := by decide +kernel
theorem dX0_letTalk_5 : decode cX0_letTalk 5 = .ok (.ifCond .ne 5, 3) := by decide +kernel
theorem dX0_letTalk_8 : decode cX0_letTalk 8 = .ok (.iconst 0, 1) := by decide +kernel
theorem dX0_letTalk_9 : decode cX0_letTalk 9 = .ok (.ireturn, 1) := by decide +kernel
theorem dX0_letTalk_10 : decode cX0_letTalk 10 = .ok (.aload_n 0, 1) := by decide +kernel
theorem dX0_letTalk_11 : decode cX0_letTalk 11 = .ok (.getfield 9, 3) := by decide +kernel
theorem dX0_letTalk_14 : decode cX0_letTalk 14 = .ok (.iload_n 1, 1) := by decide +kernel
theorem dX0_letTalk_15 : decode cX0_letTalk 15 = .ok (.iaload, 1) := by decide +kernel
theorem dX0_letTalk_16 : decode cX0_letTalk 16 = .ok (.iload_n 2, 1) := by decide +kernel
theorem dX0_letTalk_17 : decode cX0_letTalk 17 = .ok (.invokestatic 73, 3) := by decide +kernel
theorem dX0_letTalk_20 : decode cX0_letTalk 20 = .ok (.istore_n 3, 1) := by decide +kernel
theorem dX0_letTalk_21 : decode cX0_letTalk 21 = .ok (.aload_n 0, 1) := by decide +kernel
theorem dX0_letTalk_22 : decode cX0_letTalk 22 = .ok (.aload_n 0, 1) := by decide +kernel
theorem dX0_letTalk_23 : decode cX0_letTalk 23 = .ok (.getfield 21, 3) := by decide +kernel
theorem dX0_letTalk_26 : decode cX0_letTalk 26 = .ok (.iload_n 1, 1) := by decide +kernel
theorem dX0_letTalk_27 : decode cX0_letTalk 27 = .ok (.iload_n 2, 1) := by decide +kernel
theorem dX0_letTalk_28 : decode cX0_letTalk 28 = .ok (.invokevirtual 76, 3) := by decide +kernel
theorem dX0_letTalk_31 : decode cX0_letTalk 31 = .ok (.aload_n 0, 1) := by decide +kernel
theorem dX0_letTalk_32 : decode cX0_letTalk 32 = .ok (.getfield 18, 3) := by decide +kernel
theorem dX0_letTalk_35 : decode cX0_letTalk 35 = .ok (.iload_n 1, 1) := by decide +kernel
theorem dX0_letTalk_36 : decode cX0_letTalk 36 = .ok (.dup2, 1) := by decide +kernel
theorem dX0_letTalk_37 : decode cX0_letTalk 37 = .ok (.iaload, 1) := by decide +kernel
theorem dX0_letTalk_38 : decode cX0_letTalk 38 = .ok (.iconst 1, 1) := by decide +kernel
theorem dX0_letTalk_39 : decode cX0_letTalk 39 = .ok (.iadd, 1) := by decide +kernel
theorem dX0_letTalk_40 : decode cX0_letTalk 40 = .ok (.iastore, 1) := by decide +kernel
theorem dX0_letTalk_41 : decode cX0_letTalk 41 = .ok (.aload_n 0, 1) := by decide +kernel
theorem dX0_letTalk_42 : decode cX0_letTalk 42 = .ok (.dup, 1) := by decide +kernel
theorem dX0_letTalk_43 : decode cX0_letTalk 43 = .ok (.getfield 41, 3) := by decide +kernel
theorem dX0_letTalk_46 : decode cX0_letTalk 46 = .ok (.iload_n 3, 1) := by decide +kernel
theorem dX0_letTalk_47 : decode cX0_letTalk 47 = .ok (.iadd, 1) := by decide +kernel
theorem dX0_letTalk_48 : decode cX0_letTalk 48 = .ok (.putfield 41, 3) := by decide +kernel
theorem dX0_letTalk_51 : decode cX0_letTalk 51 = .ok (.iload_n 3, 1) := by decide +kernel
theorem dX0_letTalk_52 : decode cX0_letTalk 52 = .ok (.ireturn, 1) := by decide +kernel
theorem dX0_passHour_0 : decode cX0_passHour 0 = .ok (.aload_n 0, 1) := by decide +kernel
theorem dX0_passHour_1 : decode cX0_passHour 1 = .ok (.invokevirtual 80, 3) := by decide +kernel
theorem dX0_passHour_4 : decode cX0_passHour 4 = .ok (.istore_n 1, 1) := by decide +kernel
theorem dX0_passHour_5 : decode cX0_passHour 5 = .ok (.iconst 0, 1) := by decide +kernel
theorem dX0_passHour_6 : decode cX0_passHour 6 = .ok (.istore_n 2, 1) := by decide +kernel
theorem dX0_passHour_7 : decode cX0_passHour 7 = .ok (.iload_n 2, 1) := by decide +kernel
theorem dX0_passHour_8 : decode cX0_passHour 8 = .ok (.aload_n 0, 1) := by decide +kernel
theorem dX0_passHour_9 : decode cX0_passHour 9 = .ok (.getfield 28, 3) := by decide +kernel
theorem dX0_passHour_12 : decode cX0_passHour 12 = .ok (.if_icmp .ge 21, 3) := by decide +kernel
theorem dX0_passHour_15 : decode cX0_passHour 15 = .ok (.aload_n 0, 1) := by decide +kernel
theorem dX0_passHour_16 : decode cX0_passHour 16 = .ok (.getfield 21, 3) := by decide +kernel
theorem dX0_passHour_19 : decode cX0_passHour 19 = .ok (.iload_n 2, 1) := by decide +kernel
theorem dX0_passHour_20 : decode cX0_passHour 20 = .ok (.aload_n 0, 1) := by decide +kernel
theorem dX0_passHour_21 : decode cX0_passHour 21 = .ok (.iload_n 2, 1) := by decide +kernel
theorem dX0_passHour_22 : decode cX0_passHour 22 = .ok (.iconst 1, 1) := by decide +kernel
theorem dX0_passHour_23 : decode cX0_passHour 23 = .ok (.invokevirtual 84, 3) := by decide +kernel
theorem dX0_passHour_26 : decode cX0_passHour 26 = .ok (.iastore, 1) := by decide +kernel
theorem dX0_passHour_27 : decode cX0_passHour 27 = .ok (.iinc 2 1, 3) := by decide +kernel
theorem dX0_passHour_30 : decode cX0_passHour 30 = .ok (.goto (-23), 3) := by decide +kernel
theorem dX0_passHour_33 : decode cX0_passHour 33 = .ok (.aload_n 0, 1) := by decide +kernel
theorem dX0_passHour_34 : decode cX0_passHour 34 = .ok (.dup, 1) := by decide +kernel
theorem dX0_passHour_35 : decode cX0_passHour 35 = .ok (.getfield 35, 3) := by decide +kernel
theorem dX0_passHour_38 : decode cX0_passHour 38 = .ok (.iconst 1, 1) := by decide +kernel
theorem dX0_passHour_39 : decode cX0_passHour 39 = .ok (.iadd, 1) := by decide +kernel
theorem dX0_passHour_40 : decode cX0_passHour 40 = .ok (.putfield 35, 3) := by decide +kernel
theorem dX0_passHour_43 : decode cX0_passHour 43 = .ok (.iload_n 1, 1) := by decide +kernel
theorem dX0_passHour_44 : decode cX0_passHour 44 = .ok (.aload_n 0, 1) := by decide +kernel
theorem dX0_passHour_45 : decode cX0_passHour 45 = .ok (.invokevirtual 80, 3) := by decide +kernel
theorem dX0_passHour_48 : decode cX0_passHour 48 = .ok (.isub, 1) := by decide +kernel
theorem dX0_passHour_49 : decode cX0_passHour 49 = .ok (.ireturn, 1) := by decide +kernel
theorem dX0_openCell_0 : decode cX0_openCell 0 = .ok (.aload_n 0, 1) := by decide +kernel
theorem dX0_openCell_1 : decode cX0_openCell 1 = .ok (.iload_n 1, 1) := by decide +kernel
theorem dX0_openCell_2 : decode cX0_openCell 2 = .ok (.invokevirtual 31, 3) := by decide +kernel
theorem dX0_openCell_5 : decode cX0_openCell 5 = .ok (.ifCond .ne 5, 3) := by decide +kernel
theorem dX0_openCell_8 : decode cX0_openCell 8 = .ok (.iconst 0, 1) := by decide +kernel
theorem dX0_openCell_9 : decode cX0_openCell 9 = .ok (.ireturn, 1) := by decide +kernel
theorem dX0_openCell_10 : decode cX0_openCell 10 = .ok (.aload_n 0, 1) := by decide +kernel
theorem dX0_openCell_11 : decode cX0_openCell 11 = .ok (.getfield 21, 3) := by decide +kernel
theorem dX0_openCell_14 : decode cX0_openCell 14 = .ok (.iload_n 1, 1) := by decide +kernel
theorem dX0_openCell_15 : decode cX0_openCell 15 = .ok (.iaload, 1) := by decide +kernel
theorem dX0_openCell_16 : decode cX0_openCell 16 = .ok (.istore_n 2, 1) := by decide +kernel
theorem dX0_openCell_17 : decode cX0_openCell 17 = .ok (.aload_n 0, 1) := by decide +kernel
theorem dX0_openCell_18 : decode cX0_openCell 18 = .ok (.getfield 21, 3) := by decide +kernel
theorem dX0_openCell_21 : decode cX0_openCell 21 = .ok (.iload_n 1, 1) := by decide +kernel
theorem dX0_openCell_22 : decode cX0_openCell 22 = .ok (.iconst 0, 1) := by decide +kernel
theorem dX0_openCell_23 : decode cX0_openCell 23 = .ok (.iastore, 1) := by decide +kernel
theorem dX0_openCell_24 : decode cX0_openCell 24 = .ok (.iload_n 2, 1) := by decide +kernel
theorem dX0_openCell_25 : decode cX0_openCell 25 = .ok (.ireturn, 1) := by decide +kernel
theorem dX0_comeDown_0 : decode cX0_comeDown 0 = .ok (.aload_n 0, 1) := by decide +kernel
theorem dX0_comeDown_1 : decode cX0_comeDown 1 = .ok (.dup, 1) := by decide +kernel
theorem dX0_comeDown_2 : decode cX0_comeDown 2 = .ok (.getfield 38, 3) := by decide +kernel
theorem dX0_comeDown_5 : decode cX0_comeDown 5 = .ok (.aload_n 0, 1) := by decide +kernel
theorem dX0_comeDown_6 : decode cX0_comeDown 6 = .ok (.invokevirtual 80, 3) := by decide +kernel
theorem dX0_comeDown_9 : decode cX0_comeDown 9 = .ok (.iadd, 1) := by decide +kernel
theorem dX0_comeDown_10 : decode cX0_comeDown 10 = .ok (.putfield 38, 3) := by decide +kernel
theorem dX0_comeDown_13 : decode cX0_comeDown 13 = .ok (.iconst 0, 1) := by decide +kernel
theorem dX0_comeDown_14 : decode cX0_comeDown 14 = .ok (.istore_n 1, 1) := by decide +kernel
theorem dX0_comeDown_15 : decode cX0_comeDown 15 = .ok (.iload_n 1, 1) := by decide +kernel
theorem dX0_comeDown_16 : decode cX0_comeDown 16 = .ok (.aload_n 0, 1) := by decide +kernel
theorem dX0_comeDown_17 : decode cX0_comeDown 17 = .ok (.getfield 28, 3) := by decide +kernel
theorem dX0_comeDown_20 : decode cX0_comeDown 20 = .ok (.if_icmp .ge 16, 3) := by decide +kernel
theorem dX0_comeDown_23 : decode cX0_comeDown 23 = .ok (.aload_n 0, 1) := by decide +kernel
theorem dX0_comeDown_24 : decode cX0_comeDown 24 = .ok (.getfield 21, 3) := by decide +kernel
theorem dX0_comeDown_27 : decode cX0_comeDown 27 = .ok (.iload_n 1, 1) := by decide +kernel
theorem dX0_comeDown_28 : decode cX0_comeDown 28 = .ok (.iconst 0, 1) := by decide +kernel
theorem dX0_comeDown_29 : decode cX0_comeDown 29 = .ok (.iastore, 1) := by decide +kernel
theorem dX0_comeDown_30 : decode cX0_comeDown 30 = .ok (.iinc 1 1, 3) := by decide +kernel
theorem dX0_comeDown_33 : decode cX0_comeDown 33 = .ok (.goto (-18), 3) := by decide +kernel
theorem dX0_comeDown_36 : decode cX0_comeDown 36 = .ok (.aload_n 0, 1) := by decide +kernel
theorem dX0_comeDown_37 : decode cX0_comeDown 37 = .ok (.getfield 38, 3) := by decide +kernel
theorem dX0_comeDown_40 : decode cX0_comeDown 40 = .ok (.ireturn, 1) := by decide +kernel
theorem dX0_smokeIn_0 : decode cX0_smokeIn 0 = .ok (.iconst 0, 1) := by decide +kernel
theorem dX0_smokeIn_1 : decode cX0_smokeIn 1 = .ok (.aload_n 0, 1) := by decide +kernel
theorem dX0_smokeIn_2 : decode cX0_smokeIn 2 = .ok (.getfield 21, 3) := by decide +kernel
theorem dX0_smokeIn_5 : decode cX0_smokeIn 5 = .ok (.iload_n 1, 1) := by decide +kernel
theorem dX0_smokeIn_6 : decode cX0_smokeIn 6 = .ok (.iaload, 1) := by decide +kernel
theorem dX0_smokeIn_7 : decode cX0_smokeIn 7 = .ok (.aload_n 0, 1) := by decide +kernel
theorem dX0_smokeIn_8 : decode cX0_smokeIn 8 = .ok (.getfield 87, 3) := by decide +kernel
theorem dX0_smokeIn_11 : decode cX0_smokeIn 11 = .ok (.iload_n 2, 1) := by decide +kernel
theorem dX0_smokeIn_12 : decode cX0_smokeIn 12 = .ok (.imul, 1) := by decide +kernel
theorem dX0_smokeIn_13 : decode cX0_smokeIn 13 = .ok (.isub, 1) := by decide +kernel
theorem dX0_smokeIn_14 : decode cX0_smokeIn 14 = .ok (.invokestatic 90, 3) := by decide +kernel
theorem dX0_smokeIn_17 : decode cX0_smokeIn 17 = .ok (.ireturn, 1) := by decide +kernel
theorem dX0_allSmokeIn_0 : decode cX0_allSmokeIn 0 = .ok (.iconst 0, 1) := by decide +kernel
theorem dX0_allSmokeIn_1 : decode cX0_allSmokeIn 1 = .ok (.istore_n 2, 1) := by decide +kernel
theorem dX0_allSmokeIn_2 : decode cX0_allSmokeIn 2 = .ok (.iconst 0, 1) := by decide +kernel
theorem dX0_allSmokeIn_3 : decode cX0_allSmokeIn 3 = .ok (.istore_n 3, 1) := by decide +kernel
theorem dX0_allSmokeIn_4 : decode cX0_allSmokeIn 4 = .ok (.iload_n 3, 1) := by decide +kernel
theorem dX0_allSmokeIn_5 : decode cX0_allSmokeIn 5 = .ok (.aload_n 0, 1) := by decide +kernel
theorem dX0_allSmokeIn_6 : decode cX0_allSmokeIn 6 = .ok (.getfield 28, 3) := by decide +kernel
theorem dX0_allSmokeIn_9 : decode cX0_allSmokeIn 9 = .ok (.if_icmp .ge 18, 3) := by decide +kernel
theorem dX0_allSmokeIn_12 : decode cX0_allSmokeIn 12 = .ok (.iload_n 2, 1) := by decide +kernel
theorem dX0_allSmokeIn_13 : decode cX0_allSmokeIn 13 = .ok (.aload_n 0, 1) := by decide +kernel
theorem dX0_allSmokeIn_14 : decode cX0_allSmokeIn 14 = .ok (.iload_n 3, 1) := by decide +kernel
theorem dX0_allSmokeIn_15 : decode cX0_allSmokeIn 15 = .ok (.iload_n 1, 1) := by decide +kernel
theorem dX0_allSmokeIn_16 : decode cX0_allSmokeIn 16 = .ok (.invokevirtual 84, 3) := by decide +kernel
theorem dX0_allSmokeIn_19 : decode cX0_allSmokeIn 19 = .ok (.iadd, 1) := by decide +kernel
theorem dX0_allSmokeIn_20 : decode cX0_allSmokeIn 20 = .ok (.istore_n 2, 1) := by decide +kernel
theorem dX0_allSmokeIn_21 : decode cX0_allSmokeIn 21 = .ok (.iinc 3 1, 3) := by decide +kernel
theorem dX0_allSmokeIn_24 : decode cX0_allSmokeIn 24 = .ok (.goto (-20), 3) := by decide +kernel
theorem dX0_allSmokeIn_27 : decode cX0_allSmokeIn 27 = .ok (.iload_n 2, 1) := by decide +kernel
theorem dX0_allSmokeIn_28 : decode cX0_allSmokeIn 28 = .ok (.ireturn, 1) := by decide +kernel
theorem dX0_allSmoke_0 : decode cX0_allSmoke 0 = .ok (.aload_n 0, 1) := by decide +kernel
theorem dX0_allSmoke_1 : decode cX0_allSmoke 1 = .ok (.aload_n 0, 1) := by decide +kernel
theorem dX0_allSmoke_2 : decode cX0_allSmoke 2 = .ok (.getfield 21, 3) := by decide +kernel
theorem dX0_allSmoke_5 : decode cX0_allSmoke 5 = .ok (.invokevirtual 93, 3) := by decide +kernel
theorem dX0_allSmoke_8 : decode cX0_allSmoke 8 = .ok (.ireturn, 1) := by decide +kernel
theorem dX0_sumOf_0 : decode cX0_sumOf 0 = .ok (.iconst 0, 1) := by decide +kernel
theorem dX0_sumOf_1 : decode cX0_sumOf 1 = .ok (.istore_n 2, 1) := by decide +kernel
theorem dX0_sumOf_2 : decode cX0_sumOf 2 = .ok (.iconst 0, 1) := by decide +kernel
theorem dX0_sumOf_3 : decode cX0_sumOf 3 = .ok (.istore_n 3, 1) := by decide +kernel
theorem dX0_sumOf_4 : decode cX0_sumOf 4 = .ok (.iload_n 3, 1) := by decide +kernel
theorem dX0_sumOf_5 : decode cX0_sumOf 5 = .ok (.aload_n 0, 1) := by decide +kernel
theorem dX0_sumOf_6 : decode cX0_sumOf 6 = .ok (.getfield 28, 3) := by decide +kernel
theorem dX0_sumOf_9 : decode cX0_sumOf 9 = .ok (.if_icmp .ge 21, 3) := by decide +kernel
theorem dX0_sumOf_12 : decode cX0_sumOf 12 = .ok (.iload_n 3, 1) := by decide +kernel
theorem dX0_sumOf_13 : decode cX0_sumOf 13 = .ok (.aload_n 1, 1) := by decide +kernel
theorem dX0_sumOf_14 : decode cX0_sumOf 14 = .ok (.arraylength, 1) := by decide +kernel
theorem dX0_sumOf_15 : decode cX0_sumOf 15 = .ok (.if_icmp .ge 15, 3) := by decide +kernel
theorem dX0_sumOf_18 : decode cX0_sumOf 18 = .ok (.iload_n 2, 1) := by decide +kernel
theorem dX0_sumOf_19 : decode cX0_sumOf 19 = .ok (.aload_n 1, 1) := by decide +kernel
theorem dX0_sumOf_20 : decode cX0_sumOf 20 = .ok (.iload_n 3, 1) := by decide +kernel
theorem dX0_sumOf_21 : decode cX0_sumOf 21 = .ok (.iaload, 1) := by decide +kernel
theorem dX0_sumOf_22 : decode cX0_sumOf 22 = .ok (.iadd, 1) := by decide +kernel
theorem dX0_sumOf_23 : decode cX0_sumOf 23 = .ok (.istore_n 2, 1) := by decide +kernel
theorem dX0_sumOf_24 : decode cX0_sumOf 24 = .ok (.iinc 3 1, 3) := by decide +kernel
theorem dX0_sumOf_27 : decode cX0_sumOf 27 = .ok (.goto (-23), 3) := by decide +kernel
theorem dX0_sumOf_30 : decode cX0_sumOf 30 = .ok (.iload_n 2, 1) := by decide +kernel
theorem dX0_sumOf_31 : decode cX0_sumOf 31 = .ok (.ireturn, 1) := by decide +kernel
theorem dX0_smokeOutside_0 : decode cX0_smokeOutside 0 = .ok (.iconst 0, 1) := by decide +kernel
theorem dX0_smokeOutside_1 : decode cX0_smokeOutside 1 = .ok (.istore_n 2, 1) := by decide +kernel
theorem dX0_smokeOutside_2 : decode cX0_smokeOutside 2 = .ok (.iconst 0, 1) := by decide +kernel
theorem dX0_smokeOutside_3 : decode cX0_smokeOutside 3 = .ok (.istore_n 3, 1) := by decide +kernel
theorem dX0_smokeOutside_4 : decode cX0_smokeOutside 4 = .ok (.iload_n 3, 1) := by decide +kernel
theorem dX0_smokeOutside_5 : decode cX0_smokeOutside 5 = .ok (.aload_n 0, 1) := by decide +kernel
theorem dX0_smokeOutside_6 : decode cX0_smokeOutside 6 = .ok (.getfield 28, 3) := by decide +kernel
theorem dX0_smokeOutside_9 : decode cX0_smokeOutside 9 = .ok (.if_icmp .ge 30, 3) := by decide +kernel
theorem dX0_smokeOutside_12 : decode cX0_smokeOutside 12 = .ok (.iload_n 2, 1) := by decide +kernel
theorem dX0_smokeOutside_13 : decode cX0_smokeOutside 13 = .ok (.iload_n 1, 1) := by decide +kernel
theorem dX0_smokeOutside_14 : decode cX0_smokeOutside 14 = .ok (.iload_n 3, 1) := by decide +kernel
theorem dX0_smokeOutside_15 : decode cX0_smokeOutside 15 = .ok (.ishr, 1) := by decide +kernel
theorem dX0_smokeOutside_16 : decode cX0_smokeOutside 16 = .ok (.iconst 1, 1) := by decide +kernel
theorem dX0_smokeOutside_17 : decode cX0_smokeOutside 17 = .ok (.iand, 1) := by decide +kernel
theorem dX0_smokeOutside_18 : decode cX0_smokeOutside 18 = .ok (.ifCond .ne 12, 3) := by decide +kernel
theorem dX0_smokeOutside_21 : decode cX0_smokeOutside 21 = .ok (.aload_n 0, 1) := by decide +kernel
theorem dX0_smokeOutside_22 : decode cX0_smokeOutside 22 = .ok (.getfield 21, 3) := by decide +kernel
theorem dX0_smokeOutside_25 : decode cX0_smokeOutside 25 = .ok (.iload_n 3, 1) := by decide +kernel
theorem dX0_smokeOutside_26 : decode cX0_smokeOutside 26 = .ok (.iaload, 1) := by decide +kernel
theorem dX0_smokeOutside_27 : decode cX0_smokeOutside 27 = .ok (.goto 4, 3) := by decide +kernel
theorem dX0_smokeOutside_30 : decode cX0_smokeOutside 30 = .ok (.iconst 0, 1) := by decide +kernel
theorem dX0_smokeOutside_31 : decode cX0_smokeOutside 31 = .ok (.iadd, 1) := by decide +kernel
theorem dX0_smokeOutside_32 : decode cX0_smokeOutside 32 = .ok (.istore_n 2, 1) := by decide +kernel
theorem dX0_smokeOutside_33 : decode cX0_smokeOutside 33 = .ok (.iinc 3 1, 3) := by decide +kernel
theorem dX0_smokeOutside_36 : decode cX0_smokeOutside 36 = .ok (.goto (-32), 3) := by decide +kernel
theorem dX0_smokeOutside_39 : decode cX0_smokeOutside 39 = .ok (.iload_n 2, 1) := by decide +kernel
theorem dX0_smokeOutside_40 : decode cX0_smokeOutside 40 = .ok (.ireturn, 1) := by decide +kernel
theorem dX0_fullestOf_0 : decode cX0_fullestOf 0 = .ok (.iconst 0, 1) := by decide +kernel
theorem dX0_fullestOf_1 : decode cX0_fullestOf 1 = .ok (.istore_n 2, 1) := by decide +kernel
theorem dX0_fullestOf_2 : decode cX0_fullestOf 2 = .ok (.iconst 0, 1) := by decide +kernel
theorem dX0_fullestOf_3 : decode cX0_fullestOf 3 = .ok (.istore_n 3, 1) := by decide +kernel
theorem dX0_fullestOf_4 : decode cX0_fullestOf 4 = .ok (.iload_n 3, 1) := by decide +kernel
theorem dX0_fullestOf_5 : decode cX0_fullestOf 5 = .ok (.aload_n 0, 1) := by decide +kernel
theorem dX0_fullestOf_6 : decode cX0_fullestOf 6 = .ok (.getfield 28, 3) := by decide +kernel
theorem dX0_fullestOf_9 : decode cX0_fullestOf 9 = .ok (.if_icmp .ge 23, 3) := by decide +kernel
theorem dX0_fullestOf_12 : decode cX0_fullestOf 12 = .ok (.iload_n 3, 1) := by decide +kernel
theorem dX0_fullestOf_13 : decode cX0_fullestOf 13 = .ok (.aload_n 1, 1) := by decide +kernel
theorem dX0_fullestOf_14 : decode cX0_fullestOf 14 = .ok (.arraylength, 1) := by decide +kernel
theorem dX0_fullestOf_15 : decode cX0_fullestOf 15 = .ok (.if_icmp .ge 17, 3) := by decide +kernel
theorem dX0_fullestOf_18 : decode cX0_fullestOf 18 = .ok (.iload_n 2, 1) := by decide +kernel
theorem dX0_fullestOf_19 : decode cX0_fullestOf 19 = .ok (.aload_n 1, 1) := by decide +kernel
theorem dX0_fullestOf_20 : decode cX0_fullestOf 20 = .ok (.iload_n 3, 1) := by decide +kernel
theorem dX0_fullestOf_21 : decode cX0_fullestOf 21 = .ok (.iaload, 1) := by decide +kernel
theorem dX0_fullestOf_22 : decode cX0_fullestOf 22 = .ok (.invokestatic 90, 3) := by decide +kernel
theorem dX0_fullestOf_25 : decode cX0_fullestOf 25 = .ok (.istore_n 2, 1) := by decide +kernel
theorem dX0_fullestOf_26 : decode cX0_fullestOf 26 = .ok (.iinc 3 1, 3) := by decide +kernel
theorem dX0_fullestOf_29 : decode cX0_fullestOf 29 = .ok (.goto (-25), 3) := by decide +kernel
theorem dX0_fullestOf_32 : decode cX0_fullestOf 32 = .ok (.iload_n 2, 1) := by decide +kernel
theorem dX0_fullestOf_33 : decode cX0_fullestOf 33 = .ok (.ireturn, 1) := by decide +kernel
theorem dX0_ringSmoke_0 : decode cX0_ringSmoke 0 = .ok (.aload_n 0, 1) := by decide +kernel
theorem dX0_ringSmoke_1 : decode cX0_ringSmoke 1 = .ok (.getfield 15, 3) := by decide +kernel
theorem dX0_ringSmoke_4 : decode cX0_ringSmoke 4 = .ok (.iload_n 1, 1) := by decide +kernel
theorem dX0_ringSmoke_5 : decode cX0_ringSmoke 5 = .ok (.iaload, 1) := by decide +kernel
theorem dX0_ringSmoke_6 : decode cX0_ringSmoke 6 = .ok (.istore_n 2, 1) := by decide +kernel
theorem dX0_ringSmoke_7 : decode cX0_ringSmoke 7 = .ok (.aload_n 0, 1) := by decide +kernel
theorem dX0_ringSmoke_8 : decode cX0_ringSmoke 8 = .ok (.getfield 21, 3) := by decide +kernel
theorem dX0_ringSmoke_11 : decode cX0_ringSmoke 11 = .ok (.iload_n 2, 1) := by decide +kernel
theorem dX0_ringSmoke_12 : decode cX0_ringSmoke 12 = .ok (.iaload, 1) := by decide +kernel
theorem dX0_ringSmoke_13 : decode cX0_ringSmoke 13 = .ok (.aload_n 0, 1) := by decide +kernel
theorem dX0_ringSmoke_14 : decode cX0_ringSmoke 14 = .ok (.getfield 21, 3) := by decide +kernel
theorem dX0_ringSmoke_17 : decode cX0_ringSmoke 17 = .ok (.aload_n 0, 1) := by decide +kernel
theorem dX0_ringSmoke_18 : decode cX0_ringSmoke 18 = .ok (.iload_n 2, 1) := by decide +kernel
theorem dX0_ringSmoke_19 : decode cX0_ringSmoke 19 = .ok (.invokevirtual 54, 3) := by decide +kernel
theorem dX0_ringSmoke_22 : decode cX0_ringSmoke 22 = .ok (.iaload, 1) := by decide +kernel
theorem dX0_ringSmoke_23 : decode cX0_ringSmoke 23 = .ok (.iadd, 1) := by decide +kernel
theorem dX0_ringSmoke_24 : decode cX0_ringSmoke 24 = .ok (.aload_n 0, 1) := by decide +kernel
theorem dX0_ringSmoke_25 : decode cX0_ringSmoke 25 = .ok (.getfield 21, 3) := by decide +kernel
theorem dX0_ringSmoke_28 : decode cX0_ringSmoke 28 = .ok (.aload_n 0, 1) := by decide +kernel
theorem dX0_ringSmoke_29 : decode cX0_ringSmoke 29 = .ok (.iload_n 2, 1) := by decide +kernel
theorem dX0_ringSmoke_30 : decode cX0_ringSmoke 30 = .ok (.invokevirtual 58, 3) := by decide +kernel
theorem dX0_ringSmoke_33 : decode cX0_ringSmoke 33 = .ok (.iaload, 1) := by decide +kernel
theorem dX0_ringSmoke_34 : decode cX0_ringSmoke 34 = .ok (.iadd, 1) := by decide +kernel
theorem dX0_ringSmoke_35 : decode cX0_ringSmoke 35 = .ok (.ireturn, 1) := by decide +kernel
theorem dX0_otherYoungBeside_0 : decode cX0_otherYoungBeside 0 = .ok (.iconst 0, 1) := by decide +kernel
theorem dX0_otherYoungBeside_1 : decode cX0_otherYoungBeside 1 = .ok (.istore_n 2, 1) := by decide +kernel
theorem dX0_otherYoungBeside_2 : decode cX0_otherYoungBeside 2 = .ok (.iconst 0, 1) := by decide +kernel
theorem dX0_otherYoungBeside_3 : decode cX0_otherYoungBeside 3 = .ok (.istore_n 3, 1) := by decide +kernel
theorem dX0_otherYoungBeside_4 : decode cX0_otherYoungBeside 4 = .ok (.iload_n 3, 1) := by decide +kernel
theorem dX0_otherYoungBeside_5 : decode cX0_otherYoungBeside 5 = .ok (.aload_n 0, 1) := by decide +kernel
theorem dX0_otherYoungBeside_6 : decode cX0_otherYoungBeside 6 = .ok (.getfield 24, 3) := by decide +kernel
theorem dX0_otherYoungBeside_9 : decode cX0_otherYoungBeside 9 = .ok (.if_icmp .ge 62, 3) := by decide +kernel
theorem dX0_otherYoungBeside_12 : decode cX0_otherYoungBeside 12 = .ok (.iload_n 3, 1) := by decide +kernel
theorem dX0_otherYoungBeside_13 : decode cX0_otherYoungBeside 13 = .ok (.iload_n 1, 1) := by decide +kernel
theorem dX0_otherYoungBeside_14 : decode cX0_otherYoungBeside 14 = .ok (.if_icmp .eq 22, 3) := by decide +kernel
theorem dX0_otherYoungBeside_17 : decode cX0_otherYoungBeside 17 = .ok (.aload_n 0, 1) := by decide +kernel
theorem dX0_otherYoungBeside_18 : decode cX0_otherYoungBeside 18 = .ok (.getfield 15, 3) := by decide +kernel
theorem dX0_otherYoungBeside_21 : decode cX0_otherYoungBeside 21 = .ok (.iload_n 3, 1) := by decide +kernel
theorem dX0_otherYoungBeside_22 : decode cX0_otherYoungBeside 22 = .ok (.iaload, 1) := by decide +kernel
theorem dX0_otherYoungBeside_23 : decode cX0_otherYoungBeside 23 = .ok (.aload_n 0, 1) := by decide +kernel
theorem dX0_otherYoungBeside_24 : decode cX0_otherYoungBeside 24 = .ok (.getfield 15, 3) := by decide +kernel
theorem dX0_otherYoungBeside_27 : decode cX0_otherYoungBeside 27 = .ok (.iload_n 1, 1) := by decide +kernel
theorem dX0_otherYoungBeside_28 : decode cX0_otherYoungBeside 28 = .ok (.iaload, 1) := by decide +kernel
theorem dX0_otherYoungBeside_29 : decode cX0_otherYoungBeside 29 = .ok (.if_icmp .ne 7, 3) := by decide +kernel
theorem dX0_otherYoungBeside_32 : decode cX0_otherYoungBeside 32 = .ok (.iconst 1, 1) := by decide +kernel
theorem dX0_otherYoungBeside_33 : decode cX0_otherYoungBeside 33 = .ok (.goto 4, 3) := by decide +kernel
theorem dX0_otherYoungBeside_36 : decode cX0_otherYoungBeside 36 = .ok (.iconst 0, 1) := by decide +kernel
theorem dX0_otherYoungBeside_37 : decode cX0_otherYoungBeside 37 = .ok (.istore 4, 2) := by decide +kernel
theorem dX0_otherYoungBeside_39 : decode cX0_otherYoungBeside 39 = .ok (.iload_n 2, 1) := by decide +kernel
theorem dX0_otherYoungBeside_40 : decode cX0_otherYoungBeside 40 = .ok (.iload 4, 2) := by decide +kernel
theorem dX0_otherYoungBeside_42 : decode cX0_otherYoungBeside 42 = .ok (.ifCond .eq 20, 3) := by decide +kernel
theorem dX0_otherYoungBeside_45 : decode cX0_otherYoungBeside 45 = .ok (.aload_n 0, 1) := by decide +kernel
theorem dX0_otherYoungBeside_46 : decode cX0_otherYoungBeside 46 = .ok (.getfield 9, 3) := by decide +kernel
theorem dX0_otherYoungBeside_49 : decode cX0_otherYoungBeside 49 = .ok (.iload_n 3, 1) := by decide +kernel
theorem dX0_otherYoungBeside_50 : decode cX0_otherYoungBeside 50 = .ok (.iaload, 1) := by decide +kernel
theorem dX0_otherYoungBeside_51 : decode cX0_otherYoungBeside 51 = .ok (.iconst 2, 1) := by decide +kernel
theorem dX0_otherYoungBeside_52 : decode cX0_otherYoungBeside 52 = .ok (.invokestatic 50, 3) := by decide +kernel
theorem dX0_otherYoungBeside_55 : decode cX0_otherYoungBeside 55 = .ok (.ifCond .eq 7, 3) := by decide +kernel
theorem dX0_otherYoungBeside_58 : decode cX0_otherYoungBeside 58 = .ok (.iconst 1, 1) := by decide +kernel
theorem dX0_otherYoungBeside_59 : decode cX0_otherYoungBeside 59 = .ok (.goto 4, 3) := by decide +kernel
theorem dX0_otherYoungBeside_62 : decode cX0_otherYoungBeside 62 = .ok (.iconst 0, 1) := by decide +kernel
theorem dX0_otherYoungBeside_63 : decode cX0_otherYoungBeside 63 = .ok (.iadd, 1) := by decide +kernel
theorem dX0_otherYoungBeside_64 : decode cX0_otherYoungBeside 64 = .ok (.istore_n 2, 1) := by decide +kernel
theorem dX0_otherYoungBeside_65 : decode cX0_otherYoungBeside 65 = .ok (.iinc 3 1, 3) := by decide +kernel
theorem dX0_otherYoungBeside_68 : decode cX0_otherYoungBeside 68 = .ok (.goto (-64), 3) := by decide +kernel
theorem dX0_otherYoungBeside_71 : decode cX0_otherYoungBeside 71 = .ok (.iload_n 2, 1) := by decide +kernel
theorem dX0_otherYoungBeside_72 : decode cX0_otherYoungBeside 72 = .ok (.ireturn, 1) := by decide +kernel
theorem dX0_othersWithoutBreath_0 : decode cX0_othersWithoutBreath 0 = .ok (.iconst 0, 1) := by decide +kernel
theorem dX0_othersWithoutBreath_1 : decode cX0_othersWithoutBreath 1 = .ok (.istore_n 3, 1) := by decide +kernel
theorem dX0_othersWithoutBreath_2 : decode cX0_othersWithoutBreath 2 = .ok (.iconst 0, 1) := by decide +kernel
theorem dX0_othersWithoutBreath_3 : decode cX0_othersWithoutBreath 3 = .ok (.istore 4, 2) := by decide +kernel
theorem dX0_othersWithoutBreath_5 : decode cX0_othersWithoutBreath 5 = .ok (.iload 4, 2) := by decide +kernel
theorem dX0_othersWithoutBreath_7 : decode cX0_othersWithoutBreath 7 = .ok (.aload_n 0, 1) := by decide +kernel
theorem dX0_othersWithoutBreath_8 : decode cX0_othersWithoutBreath 8 = .ok (.getfield 24, 3) := by decide +kernel
theorem dX0_othersWithoutBreath_11 : decode cX0_othersWithoutBreath 11 = .ok (.if_icmp .ge 37, 3) := by decide +kernel
theorem dX0_othersWithoutBreath_14 : decode cX0_othersWithoutBreath 14 = .ok (.iload_n 3, 1) := by decide +kernel
theorem dX0_othersWithoutBreath_15 : decode cX0_othersWithoutBreath 15 = .ok (.iload 4, 2) := by decide +kernel
theorem dX0_othersWithoutBreath_17 : decode cX0_othersWithoutBreath 17 = .ok (.iload_n 1, 1) := by decide +kernel
theorem dX0_othersWithoutBreath_18 : decode cX0_othersWithoutBreath 18 = .ok (.if_icmp .eq 21, 3) := by decide +kernel
theorem dX0_othersWithoutBreath_21 : decode cX0_othersWithoutBreath 21 = .ok (.aload_n 0, 1) := by decide +kernel
theorem dX0_othersWithoutBreath_22 : decode cX0_othersWithoutBreath 22 = .ok (.getfield 9, 3) := by decide +kernel
theorem dX0_othersWithoutBreath_25 : decode cX0_othersWithoutBreath 25 = .ok (.iload 4, 2) := by decide +kernel
theorem dX0_othersWithoutBreath_27 : decode cX0_othersWithoutBreath 27 = .ok (.iaload, 1) := by decide +kernel
theorem dX0_othersWithoutBreath_28 : decode cX0_othersWithoutBreath 28 = .ok (.iload_n 2, 1) := by decide +kernel
theorem dX0_othersWithoutBreath_29 : decode cX0_othersWithoutBreath 29 = .ok (.invokestatic 44, 3) := by decide +kernel
theorem dX0_othersWithoutBreath_32 : decode cX0_othersWithoutBreath 32 = .ok (.ifCond .ne 7, 3) := by decide +kernel
theorem dX0_othersWithoutBreath_35 : decode cX0_othersWithoutBreath 35 = .ok (.iconst 1, 1) := by decide +kernel
theorem dX0_othersWithoutBreath_36 : decode cX0_othersWithoutBreath 36 = .ok (.goto 4, 3) := by decide +kernel
theorem dX0_othersWithoutBreath_39 : decode cX0_othersWithoutBreath 39 = .ok (.iconst 0, 1) := by decide +kernel
theorem dX0_othersWithoutBreath_40 : decode cX0_othersWithoutBreath 40 = .ok (.iadd, 1) := by decide +kernel
theorem dX0_othersWithoutBreath_41 : decode cX0_othersWithoutBreath 41 = .ok (.istore_n 3, 1) := by decide +kernel
theorem dX0_othersWithoutBreath_42 : decode cX0_othersWithoutBreath 42 = .ok (.iinc 4 1, 3) := by decide +kernel
theorem dX0_othersWithoutBreath_45 : decode cX0_othersWithoutBreath 45 = .ok (.goto (-40), 3) := by decide +kernel
theorem dX0_othersWithoutBreath_48 : decode cX0_othersWithoutBreath 48 = .ok (.iload_n 3, 1) := by decide +kernel
theorem dX0_othersWithoutBreath_49 : decode cX0_othersWithoutBreath 49 = .ok (.ireturn, 1) := by decide +kernel
theorem dX0_membersOf_0 : decode cX0_membersOf 0 = .ok (.iconst 0, 1) := by decide +kernel
theorem dX0_membersOf_1 : decode cX0_membersOf 1 = .ok (.istore_n 2, 1) := by decide +kernel
theorem dX0_membersOf_2 : decode cX0_membersOf 2 = .ok (.iconst 0, 1) := by decide +kernel
theorem dX0_membersOf_3 : decode cX0_membersOf 3 = .ok (.istore_n 3, 1) := by decide +kernel
theorem dX0_membersOf_4 : decode cX0_membersOf 4 = .ok (.iload_n 3, 1) := by decide +kernel
theorem dX0_membersOf_5 : decode cX0_membersOf 5 = .ok (.aload_n 0, 1) := by decide +kernel
theorem dX0_membersOf_6 : decode cX0_membersOf 6 = .ok (.getfield 24, 3) := by decide +kernel
theorem dX0_membersOf_9 : decode cX0_membersOf 9 = .ok (.if_icmp .ge 30, 3) := by decide +kernel
theorem dX0_membersOf_12 : decode cX0_membersOf 12 = .ok (.iload_n 2, 1) := by decide +kernel
theorem dX0_membersOf_13 : decode cX0_membersOf 13 = .ok (.aload_n 0, 1) := by decide +kernel
theorem dX0_membersOf_14 : decode cX0_membersOf 14 = .ok (.getfield 9, 3) := by decide +kernel
theorem dX0_membersOf_17 : decode cX0_membersOf 17 = .ok (.iload_n 3, 1) := by decide +kernel
theorem dX0_membersOf_18 : decode cX0_membersOf 18 = .ok (.iaload, 1) := by decide +kernel
theorem dX0_membersOf_19 : decode cX0_membersOf 19 = .ok (.iload_n 1, 1) := by decide +kernel
theorem dX0_membersOf_20 : decode cX0_membersOf 20 = .ok (.invokestatic 50, 3) := by decide +kernel
theorem dX0_membersOf_23 : decode cX0_membersOf 23 = .ok (.ifCond .eq 7, 3) := by decide +kernel
theorem dX0_membersOf_26 : decode cX0_membersOf 26 = .ok (.iconst 1, 1) := by decide +kernel
theorem dX0_membersOf_27 : decode cX0_membersOf 27 = .ok (.goto 4, 3) := by decide +kernel
theorem dX0_membersOf_30 : decode cX0_membersOf 30 = .ok (.iconst 0, 1) := by decide +kernel
theorem dX0_membersOf_31 : decode cX0_membersOf 31 = .ok (.iadd, 1) := by decide +kernel
theorem dX0_membersOf_32 : decode cX0_membersOf 32 = .ok (.istore_n 2, 1) := by decide +kernel
theorem dX0_membersOf_33 : decode cX0_membersOf 33 = .ok (.iinc 3 1, 3) := by decide +kernel
theorem dX0_membersOf_36 : decode cX0_membersOf 36 = .ok (.goto (-32), 3) := by decide +kernel
theorem dX0_membersOf_39 : decode cX0_membersOf 39 = .ok (.iload_n 2, 1) := by decide +kernel
theorem dX0_membersOf_40 : decode cX0_membersOf 40 = .ok (.ireturn, 1) := by decide +kernel
theorem dX1_init_0 : decode cX1_init 0 = .ok (.aload_n 0, 1) := by decide +kernel
theorem dX1_init_1 : decode cX1_init 1 = .ok (.invokespecial 1, 3) := by decide +kernel
theorem dX1_init_4 : decode cX1_init 4 = .ok (.aload_n 0, 1) := by decide +kernel
theorem dX1_init_5 : decode cX1_init 5 = .ok (.bipush 40, 2) := by decide +kernel
theorem dX1_init_7 : decode cX1_init 7 = .ok (.newarray .int, 2) := by decide +kernel
theorem dX1_init_9 : decode cX1_init 9 = .ok (.putfield 9, 3) := by decide +kernel
theorem dX1_init_12 : decode cX1_init 12 = .ok (.aload_n 0, 1) := by decide +kernel
theorem dX1_init_13 : decode cX1_init 13 = .ok (.iconst (-1), 1) := by decide +kernel
theorem dX1_init_14 : decode cX1_init 14 = .ok (.putfield 13, 3) := by decide +kernel
theorem dX1_init_17 : decode cX1_init 17 = .ok (.return_, 1) := by decide +kernel
theorem dX1_isFull_0 : decode cX1_isFull 0 = .ok (.aload_n 0, 1) := by decide +kernel
theorem dX1_isFull_1 : decode cX1_isFull 1 = .ok (.getfield 13, 3) := by decide +kernel
theorem dX1_isFull_4 : decode cX1_isFull 4 = .ok (.bipush 40, 2) := by decide +kernel
theorem dX1_isFull_6 : decode cX1_isFull 6 = .ok (.if_icmp .lt 7, 3) := by decide +kernel
theorem dX1_isFull_9 : decode cX1_isFull 9 = .ok (.iconst 1, 1) := by decide +kernel
theorem dX1_isFull_10 : decode cX1_isFull 10 = .ok (.goto 4, 3) := by decide +kernel
theorem dX1_isFull_13 : decode cX1_isFull 13 = .ok (.iconst 0, 1) := by decide +kernel
theorem dX1_isFull_14 : decode cX1_isFull 14 = .ok (.ireturn, 1) := by decide +kernel
theorem dX1_write_0 : decode cX1_write 0 = .ok (.aload_n 0, 1) := by decide +kernel
theorem dX1_write_1 : decode cX1_write 1 = .ok (.getfield 13, 3) := by decide +kernel
theorem dX1_write_4 : decode cX1_write 4 = .ok (.ifCond .lt 41, 3) := by decide +kernel
theorem dX1_write_7 : decode cX1_write 7 = .ok (.aload_n 0, 1) := by decide +kernel
theorem dX1_write_8 : decode cX1_write 8 = .ok (.getfield 13, 3) := by decide +kernel
theorem dX1_write_11 : decode cX1_write 11 = .ok (.bipush 40, 2) := by decide +kernel
theorem dX1_write_13 : decode cX1_write 13 = .ok (.if_icmp .ge 32, 3) := by decide +kernel
theorem dX1_write_16 : decode cX1_write 16 = .ok (.aload_n 0, 1) := by decide +kernel
theorem dX1_write_17 : decode cX1_write 17 = .ok (.getfield 9, 3) := by decide +kernel
theorem dX1_write_20 : decode cX1_write 20 = .ok (.aload_n 0, 1) := by decide +kernel
theorem dX1_write_21 : decode cX1_write 21 = .ok (.getfield 13, 3) := by decide +kernel
theorem dX1_write_24 : decode cX1_write 24 = .ok (.iload_n 3, 1) := by decide +kernel
theorem dX1_write_25 : decode cX1_write 25 = .ok (.bipush 8, 2) := by decide +kernel
theorem dX1_write_27 : decode cX1_write 27 = .ok (.imul, 1) := by decide +kernel
theorem dX1_write_28 : decode cX1_write 28 = .ok (.iload_n 2, 1) := by decide +kernel
theorem dX1_write_29 : decode cX1_write 29 = .ok (.iadd, 1) := by decide +kernel
theorem dX1_write_30 : decode cX1_write 30 = .ok (.iconst 4, 1) := by decide +kernel
theorem dX1_write_31 : decode cX1_write 31 = .ok (.imul, 1) := by decide +kernel
theorem dX1_write_32 : decode cX1_write 32 = .ok (.iload_n 1, 1) := by decide +kernel
theorem dX1_write_33 : decode cX1_write 33 = .ok (.iadd, 1) := by decide +kernel
theorem dX1_write_34 : decode cX1_write 34 = .ok (.iastore, 1) := by decide +kernel
theorem dX1_write_35 : decode cX1_write 35 = .ok (.aload_n 0, 1) := by decide +kernel
theorem dX1_write_36 : decode cX1_write 36 = .ok (.dup, 1) := by decide +kernel
theorem dX1_write_37 : decode cX1_write 37 = .ok (.getfield 13, 3) := by decide +kernel
theorem dX1_write_40 : decode cX1_write 40 = .ok (.iconst 1, 1) := by decide +kernel
theorem dX1_write_41 : decode cX1_write 41 = .ok (.iadd, 1) := by decide +kernel
theorem dX1_write_42 : decode cX1_write 42 = .ok (.putfield 13, 3) := by decide +kernel
theorem dX1_write_45 : decode cX1_write 45 = .ok (.return_, 1) := by decide +kernel
theorem dX1_what_0 : decode cX1_what 0 = .ok (.aload_n 0, 1) := by decide +kernel
theorem dX1_what_1 : decode cX1_what 1 = .ok (.getfield 9, 3) := by decide +kernel
theorem dX1_what_4 : decode cX1_what 4 = .ok (.iload_n 1, 1) := by decide +kernel
theorem dX1_what_5 : decode cX1_what 5 = .ok (.iaload, 1) := by decide +kernel
theorem dX1_what_6 : decode cX1_what 6 = .ok (.iconst 4, 1) := by decide +kernel
theorem dX1_what_7 : decode cX1_what 7 = .ok (.irem, 1) := by decide +kernel
theorem dX1_what_8 : decode cX1_what 8 = .ok (.ireturn, 1) := by decide +kernel
theorem dX1_whom_0 : decode cX1_whom 0 = .ok (.aload_n 0, 1) := by decide +kernel
theorem dX1_whom_1 : decode cX1_whom 1 = .ok (.getfield 9, 3) := by decide +kernel
theorem dX1_whom_4 : decode cX1_whom 4 = .ok (.iload_n 1, 1) := by decide +kernel
theorem dX1_whom_5 : decode cX1_whom 5 = .ok (.iaload, 1) := by decide +kernel
theorem dX1_whom_6 : decode cX1_whom 6 = .ok (.iconst 4, 1) := by decide +kernel
theorem dX1_whom_7 : decode cX1_whom 7 = .ok (.idiv, 1) := by decide +kernel
theorem dX1_whom_8 : decode cX1_whom 8 = .ok (.bipush 8, 2) := by decide +kernel
theorem dX1_whom_10 : decode cX1_whom 10 = .ok (.irem, 1) := by decide +kernel
theorem dX1_whom_11 : decode cX1_whom 11 = .ok (.ireturn, 1) := by decide +kernel
theorem dX1_meant_0 : decode cX1_meant 0 = .ok (.aload_n 0, 1) := by decide +kernel
theorem dX1_meant_1 : decode cX1_meant 1 = .ok (.getfield 9, 3) := by decide +kernel
theorem dX1_meant_4 : decode cX1_meant 4 = .ok (.iload_n 1, 1) := by decide +kernel
theorem dX1_meant_5 : decode cX1_meant 5 = .ok (.iaload, 1) := by decide +kernel
theorem dX1_meant_6 : decode cX1_meant 6 = .ok (.iconst 4, 1) := by decide +kernel
theorem dX1_meant_7 : decode cX1_meant 7 = .ok (.idiv, 1) := by decide +kernel
theorem dX1_meant_8 : decode cX1_meant 8 = .ok (.bipush 8, 2) := by decide +kernel
theorem dX1_meant_10 : decode cX1_meant 10 = .ok (.idiv, 1) := by decide +kernel
theorem dX1_meant_11 : decode cX1_meant 11 = .ok (.ireturn, 1) := by decide +kernel
theorem dX1_takeFrom_0 : decode cX1_takeFrom 0 = .ok (.iconst 0, 1) := by decide +kernel
theorem dX1_takeFrom_1 : decode cX1_takeFrom 1 = .ok (.istore_n 2, 1) := by decide +kernel
theorem dX1_takeFrom_2 : decode cX1_takeFrom 2 = .ok (.iload_n 2, 1) := by decide +kernel
theorem dX1_takeFrom_3 : decode cX1_takeFrom 3 = .ok (.bipush 40, 2) := by decide +kernel
theorem dX1_takeFrom_5 : decode cX1_takeFrom 5 = .ok (.if_icmp .ge 21, 3) := by decide +kernel
theorem dX1_takeFrom_8 : decode cX1_takeFrom 8 = .ok (.aload_n 0, 1) := by decide +kernel
theorem dX1_takeFrom_9 : decode cX1_takeFrom 9 = .ok (.getfield 9, 3) := by decide +kernel
theorem dX1_takeFrom_12 : decode cX1_takeFrom 12 = .ok (.iload_n 2, 1) := by decide +kernel
theorem dX1_takeFrom_13 : decode cX1_takeFrom 13 = .ok (.aload_n 1, 1) := by decide +kernel
theorem dX1_takeFrom_14 : decode cX1_takeFrom 14 = .ok (.getfield 9, 3) := by decide +kernel
theorem dX1_takeFrom_17 : decode cX1_takeFrom 17 = .ok (.iload_n 2, 1) := by decide +kernel
theorem dX1_takeFrom_18 : decode cX1_takeFrom 18 = .ok (.iaload, 1) := by decide +kernel
theorem dX1_takeFrom_19 : decode cX1_takeFrom 19 = .ok (.iastore, 1) := by decide +kernel
theorem dX1_takeFrom_20 : decode cX1_takeFrom 20 = .ok (.iinc 2 1, 3) := by decide +kernel
theorem dX1_takeFrom_23 : decode cX1_takeFrom 23 = .ok (.goto (-21), 3) := by decide +kernel
theorem dX1_takeFrom_26 : decode cX1_takeFrom 26 = .ok (.aload_n 0, 1) := by decide +kernel
theorem dX1_takeFrom_27 : decode cX1_takeFrom 27 = .ok (.aload_n 1, 1) := by decide +kernel
theorem dX1_takeFrom_28 : decode cX1_takeFrom 28 = .ok (.getfield 13, 3) := by decide +kernel
theorem dX1_takeFrom_31 : decode cX1_takeFrom 31 = .ok (.putfield 13, 3) := by decide +kernel
theorem dX1_takeFrom_34 : decode cX1_takeFrom 34 = .ok (.return_, 1) := by decide +kernel
theorem dX2_byLetter_0 : decode cX2_byLetter 0 = .ok (.iload_n 0, 1) := by decide +kernel
theorem dX2_byLetter_1 : decode cX2_byLetter 1 = .ok (.lookupswitch 71 #[(97, 67), (98, 61), (102, 65), (109, 59), (118, 69), (121, 63)], 59) := by decide +kernel
theorem dX2_byLetter_60 : decode cX2_byLetter 60 = .ok (.iconst 0, 1) := by decide +kernel
theorem dX2_byLetter_61 : decode cX2_byLetter 61 = .ok (.ireturn, 1) := by decide +kernel
theorem dX2_byLetter_62 : decode cX2_byLetter 62 = .ok (.iconst 1, 1) := by decide +kernel
theorem dX2_byLetter_63 : decode cX2_byLetter 63 = .ok (.ireturn, 1) := by decide +kernel
theorem dX2_byLetter_64 : decode cX2_byLetter 64 = .ok (.iconst 2, 1) := by decide +kernel
theorem dX2_byLetter_65 : decode cX2_byLetter 65 = .ok (.ireturn, 1) := by decide +kernel
theorem dX2_byLetter_66 : decode cX2_byLetter 66 = .ok (.iconst 3, 1) := by decide +kernel
theorem dX2_byLetter_67 : decode cX2_byLetter 67 = .ok (.ireturn, 1) := by decide +kernel
theorem dX2_byLetter_68 : decode cX2_byLetter 68 = .ok (.iconst 4, 1) := by decide +kernel
theorem dX2_byLetter_69 : decode cX2_byLetter 69 = .ok (.ireturn, 1) := by decide +kernel
theorem dX2_byLetter_70 : decode cX2_byLetter 70 = .ok (.iconst 5, 1) := by decide +kernel
theorem dX2_byLetter_71 : decode cX2_byLetter 71 = .ok (.ireturn, 1) := by decide +kernel
theorem dX2_byLetter_72 : decode cX2_byLetter 72 = .ok (.bipush (-9), 2) := by decide +kernel
theorem dX2_byLetter_74 : decode cX2_byLetter 74 = .ok (.ireturn, 1) := by decide +kernel
theorem dX2_isOf_0 : decode cX2_isOf 0 = .ok (.iload_n 1, 1) := by decide +kernel
theorem dX2_isOf_1 : decode cX2_isOf 1 = .ok (.tableswitch 61 0 2 #[27, 29, 45], 27) := by decide +kernel
theorem dX2_isOf_28 : decode cX2_isOf 28 = .ok (.iconst 1, 1) := by decide +kernel
theorem dX2_isOf_29 : decode cX2_isOf 29 = .ok (.ireturn, 1) := by decide +kernel
theorem dX2_isOf_30 : decode cX2_isOf 30 = .ok (.iload_n 0, 1) := by decide +kernel
theorem dX2_isOf_31 : decode cX2_isOf 31 = .ok (.iconst 1, 1) := by decide +kernel
theorem dX2_isOf_32 : decode cX2_isOf 32 = .ok (.if_icmp .eq 8, 3) := by decide +kernel
theorem dX2_isOf_35 : decode cX2_isOf 35 = .ok (.iload_n 0, 1) := by decide +kernel
theorem dX2_isOf_36 : decode cX2_isOf 36 = .ok (.iconst 4, 1) := by decide +kernel
theorem dX2_isOf_37 : decode cX2_isOf 37 = .ok (.if_icmp .ne 7, 3) := by decide +kernel
theorem dX2_isOf_40 : decode cX2_isOf 40 = .ok (.iconst 1, 1) := by decide +kernel
theorem dX2_isOf_41 : decode cX2_isOf 41 = .ok (.goto 4, 3) := by decide +kernel
theorem dX2_isOf_44 : decode cX2_isOf 44 = .ok (.iconst 0, 1) := by decide +kernel
theorem dX2_isOf_45 : decode cX2_isOf 45 = .ok (.ireturn, 1) := by decide +kernel
theorem dX2_isOf_46 : decode cX2_isOf 46 = .ok (.iload_n 0, 1) := by decide +kernel
theorem dX2_isOf_47 : decode cX2_isOf 47 = .ok (.iconst 2, 1) := by decide +kernel
theorem dX2_isOf_48 : decode cX2_isOf 48 = .ok (.if_icmp .eq 8, 3) := by decide +kernel
theorem dX2_isOf_51 : decode cX2_isOf 51 = .ok (.iload_n 0, 1) := by decide +kernel
theorem dX2_isOf_52 : decode cX2_isOf 52 = .ok (.iconst 5, 1) := by decide +kernel
theorem dX2_isOf_53 : decode cX2_isOf 53 = .ok (.if_icmp .ne 7, 3) := by decide +kernel
theorem dX2_isOf_56 : decode cX2_isOf 56 = .ok (.iconst 1, 1) := by decide +kernel
theorem dX2_isOf_57 : decode cX2_isOf 57 = .ok (.goto 4, 3) := by decide +kernel
theorem dX2_isOf_60 : decode cX2_isOf 60 = .ok (.iconst 0, 1) := by decide +kernel
theorem dX2_isOf_61 : decode cX2_isOf 61 = .ok (.ireturn, 1) := by decide +kernel
theorem dX2_isOf_62 : decode cX2_isOf 62 = .ok (.iload_n 0, 1) := by decide +kernel
theorem dX2_isOf_63 : decode cX2_isOf 63 = .ok (.iload_n 1, 1) := by decide +kernel
theorem dX2_isOf_64 : decode cX2_isOf 64 = .ok (.if_icmp .ne 7, 3) := by decide +kernel
theorem dX2_isOf_67 : decode cX2_isOf 67 = .ok (.iconst 1, 1) := by decide +kernel
theorem dX2_isOf_68 : decode cX2_isOf 68 = .ok (.goto 4, 3) := by decide +kernel
theorem dX2_isOf_71 : decode cX2_isOf 71 = .ok (.iconst 0, 1) := by decide +kernel
theorem dX2_isOf_72 : decode cX2_isOf 72 = .ok (.ireturn, 1) := by decide +kernel
theorem dX2_spoken_0 : decode cX2_spoken 0 = .ok (.iload_n 0, 1) := by decide +kernel
theorem dX2_spoken_1 : decode cX2_spoken 1 = .ok (.tableswitch 55 2 5 #[31, 43, 45, 38], 31) := by decide +kernel
theorem dX2_spoken_32 : decode cX2_spoken 32 = .ok (.iload_n 1, 1) := by decide +kernel
theorem dX2_spoken_33 : decode cX2_spoken 33 = .ok (.iload_n 1, 1) := by decide +kernel
theorem dX2_spoken_34 : decode cX2_spoken 34 = .ok (.bipush 10, 2) := by decide +kernel
theorem dX2_spoken_36 : decode cX2_spoken 36 = .ok (.irem, 1) := by decide +kernel
theorem dX2_spoken_37 : decode cX2_spoken 37 = .ok (.isub, 1) := by decide +kernel
theorem dX2_spoken_38 : decode cX2_spoken 38 = .ok (.ireturn, 1) := by decide +kernel
theorem dX2_spoken_39 : decode cX2_spoken 39 = .ok (.iload_n 1, 1) := by decide +kernel
theorem dX2_spoken_40 : decode cX2_spoken 40 = .ok (.bipush 10, 2) := by decide +kernel
theorem dX2_spoken_42 : decode cX2_spoken 42 = .ok (.irem, 1) := by decide +kernel
theorem dX2_spoken_43 : decode cX2_spoken 43 = .ok (.ireturn, 1) := by decide +kernel
theorem dX2_spoken_44 : decode cX2_spoken 44 = .ok (.iload_n 1, 1) := by decide +kernel
theorem dX2_spoken_45 : decode cX2_spoken 45 = .ok (.ireturn, 1) := by decide +kernel
theorem dX2_spoken_46 : decode cX2_spoken 46 = .ok (.iconst 0, 1) := by decide +kernel
theorem dX2_spoken_47 : decode cX2_spoken 47 = .ok (.iload_n 1, 1) := by decide +kernel
theorem dX2_spoken_48 : decode cX2_spoken 48 = .ok (.iconst 2, 1) := by decide +kernel
theorem dX2_spoken_49 : decode cX2_spoken 49 = .ok (.idiv, 1) := by decide +kernel
theorem dX2_spoken_50 : decode cX2_spoken 50 = .ok (.iconst 1, 1) := by decide +kernel
theorem dX2_spoken_51 : decode cX2_spoken 51 = .ok (.isub, 1) := by decide +kernel
theorem dX2_spoken_52 : decode cX2_spoken 52 = .ok (.invokestatic 11, 3) := by decide +kernel
theorem dX2_spoken_55 : decode cX2_spoken 55 = .ok (.ireturn, 1) := by decide +kernel
theorem dX2_spoken_56 : decode cX2_spoken 56 = .ok (.iload_n 1, 1) := by decide +kernel
theorem dX2_spoken_57 : decode cX2_spoken 57 = .ok (.iconst 2, 1) := by decide +kernel
theorem dX2_spoken_58 : decode cX2_spoken 58 = .ok (.idiv, 1) := by decide +kernel
theorem dX2_spoken_59 : decode cX2_spoken 59 = .ok (.ireturn, 1) := by decide +kernel
theorem dX2_breathed_0 : decode cX2_breathed 0 = .ok (.iload_n 1, 1) := by decide +kernel
theorem dX2_breathed_1 : decode cX2_breathed 1 = .ok (.iload_n 0, 1) := by decide +kernel
theorem dX2_breathed_2 : decode cX2_breathed 2 = .ok (.iload_n 1, 1) := by decide +kernel
theorem dX2_breathed_3 : decode cX2_breathed 3 = .ok (.invokestatic 17, 3) := by decide +kernel
theorem dX2_breathed_6 : decode cX2_breathed 6 = .ok (.isub, 1) := by decide +kernel
theorem dX2_breathed_7 : decode cX2_breathed 7 = .ok (.ireturn, 1) := by decide +kernel
theorem dX2_meaningsOf_0 : decode cX2_meaningsOf 0 = .ok (.iconst 0, 1) := by decide +kernel
theorem dX2_meaningsOf_1 : decode cX2_meaningsOf 1 = .ok (.istore_n 2, 1) := by decide +kernel
theorem dX2_meaningsOf_2 : decode cX2_meaningsOf 2 = .ok (.iconst 0, 1) := by decide +kernel
theorem dX2_meaningsOf_3 : decode cX2_meaningsOf 3 = .ok (.istore_n 3, 1) := by decide +kernel
theorem dX2_meaningsOf_4 : decode cX2_meaningsOf 4 = .ok (.iload_n 3, 1) := by decide +kernel
theorem dX2_meaningsOf_5 : decode cX2_meaningsOf 5 = .ok (.bipush 99, 2) := by decide +kernel
theorem dX2_meaningsOf_7 : decode cX2_meaningsOf 7 = .ok (.if_icmp .gt 26, 3) := by decide +kernel
theorem dX2_meaningsOf_10 : decode cX2_meaningsOf 10 = .ok (.iload_n 2, 1) := by decide +kernel
theorem dX2_meaningsOf_11 : decode cX2_meaningsOf 11 = .ok (.iload_n 0, 1) := by decide +kernel
theorem dX2_meaningsOf_12 : decode cX2_meaningsOf 12 = .ok (.iload_n 3, 1) := by decide +kernel
theorem dX2_meaningsOf_13 : decode cX2_meaningsOf 13 = .ok (.invokestatic 17, 3) := by decide +kernel
theorem dX2_meaningsOf_16 : decode cX2_meaningsOf 16 = .ok (.iload_n 1, 1) := by decide +kernel
theorem dX2_meaningsOf_17 : decode cX2_meaningsOf 17 = .ok (.if_icmp .ne 7, 3) := by decide +kernel
theorem dX2_meaningsOf_20 : decode cX2_meaningsOf 20 = .ok (.iconst 1, 1) := by decide +kernel
theorem dX2_meaningsOf_21 : decode cX2_meaningsOf 21 = .ok (.goto 4, 3) := by decide +kernel
theorem dX2_meaningsOf_24 : decode cX2_meaningsOf 24 = .ok (.iconst 0, 1) := by decide +kernel
theorem dX2_meaningsOf_25 : decode cX2_meaningsOf 25 = .ok (.iadd, 1) := by decide +kernel
theorem dX2_meaningsOf_26 : decode cX2_meaningsOf 26 = .ok (.istore_n 2, 1) := by decide +kernel
theorem dX2_meaningsOf_27 : decode cX2_meaningsOf 27 = .ok (.iinc 3 1, 3) := by decide +kernel
theorem dX2_meaningsOf_30 : decode cX2_meaningsOf 30 = .ok (.goto (-26), 3) := by decide +kernel
theorem dX2_meaningsOf_33 : decode cX2_meaningsOf 33 = .ok (.iload_n 2, 1) := by decide +kernel
theorem dX2_meaningsOf_34 : decode cX2_meaningsOf 34 = .ok (.ireturn, 1) := by decide +kernel
theorem dX2_leastMeaningOf_0 : decode cX2_leastMeaningOf 0 = .ok (.iconst 0, 1) := by decide +kernel
theorem dX2_leastMeaningOf_1 : decode cX2_leastMeaningOf 1 = .ok (.istore_n 2, 1) := by decide +kernel
theorem dX2_leastMeaningOf_2 : decode cX2_leastMeaningOf 2 = .ok (.iload_n 2, 1) := by decide +kernel
theorem dX2_leastMeaningOf_3 : decode cX2_leastMeaningOf 3 = .ok (.bipush 99, 2) := by decide +kernel
theorem dX2_leastMeaningOf_5 : decode cX2_leastMeaningOf 5 = .ok (.if_icmp .gt 20, 3) := by decide +kernel
theorem dX2_leastMeaningOf_8 : decode cX2_leastMeaningOf 8 = .ok (.iload_n 0, 1) := by decide +kernel
theorem dX2_leastMeaningOf_9 : decode cX2_leastMeaningOf 9 = .ok (.iload_n 2, 1) := by decide +kernel
theorem dX2_leastMeaningOf_10 : decode cX2_leastMeaningOf 10 = .ok (.invokestatic 17, 3) := by decide +kernel
theorem dX2_leastMeaningOf_13 : decode cX2_leastMeaningOf 13 = .ok (.iload_n 1, 1) := by decide +kernel
theorem dX2_leastMeaningOf_14 : decode cX2_leastMeaningOf 14 = .ok (.if_icmp .ne 5, 3) := by decide +kernel
theorem dX2_leastMeaningOf_17 : decode cX2_leastMeaningOf 17 = .ok (.iload_n 2, 1) := by decide +kernel
theorem dX2_leastMeaningOf_18 : decode cX2_leastMeaningOf 18 = .ok (.ireturn, 1) := by decide +kernel
theorem dX2_leastMeaningOf_19 : decode cX2_leastMeaningOf 19 = .ok (.iinc 2 1, 3) := by decide +kernel
theorem dX2_leastMeaningOf_22 : decode cX2_leastMeaningOf 22 = .ok (.goto (-20), 3) := by decide +kernel
theorem dX2_leastMeaningOf_25 : decode cX2_leastMeaningOf 25 = .ok (.bipush (-9), 2) := by decide +kernel
theorem dX2_leastMeaningOf_27 : decode cX2_leastMeaningOf 27 = .ok (.ireturn, 1) := by decide +kernel
theorem dX3_fit_0 : decode cX3_fit 0 = .ok (.iconst 0, 1) := by decide +kernel
theorem dX3_fit_1 : decode cX3_fit 1 = .ok (.istore_n 2, 1) := by decide +kernel
theorem dX3_fit_2 : decode cX3_fit 2 = .ok (.iload_n 2, 1) := by decide +kernel
theorem dX3_fit_3 : decode cX3_fit 3 = .ok (.iconst 1, 1) := by decide +kernel
theorem dX3_fit_4 : decode cX3_fit 4 = .ok (.iadd, 1) := by decide +kernel
theorem dX3_fit_5 : decode cX3_fit 5 = .ok (.aload_n 0, 1) := by decide +kernel
theorem dX3_fit_6 : decode cX3_fit 6 = .ok (.getfield 7, 3) := by decide +kernel
theorem dX3_fit_9 : decode cX3_fit 9 = .ok (.if_icmp .ge 30, 3) := by decide +kernel
theorem dX3_fit_12 : decode cX3_fit 12 = .ok (.iload_n 1, 1) := by decide +kernel
theorem dX3_fit_13 : decode cX3_fit 13 = .ok (.aload_n 0, 1) := by decide +kernel
theorem dX3_fit_14 : decode cX3_fit 14 = .ok (.iload_n 2, 1) := by decide +kernel
theorem dX3_fit_15 : decode cX3_fit 15 = .ok (.invokevirtual 13, 3) := by decide +kernel
theorem dX3_fit_18 : decode cX3_fit 18 = .ok (.invokestatic 17, 3) := by decide +kernel
theorem dX3_fit_21 : decode cX3_fit 21 = .ok (.aload_n 0, 1) := by decide +kernel
theorem dX3_fit_22 : decode cX3_fit 22 = .ok (.iload_n 2, 1) := by decide +kernel
theorem dX3_fit_23 : decode cX3_fit 23 = .ok (.iconst 1, 1) := by decide +kernel
theorem dX3_fit_24 : decode cX3_fit 24 = .ok (.iadd, 1) := by decide +kernel
theorem dX3_fit_25 : decode cX3_fit 25 = .ok (.invokevirtual 13, 3) := by decide +kernel
theorem dX3_fit_28 : decode cX3_fit 28 = .ok (.if_icmp .eq 5, 3) := by decide +kernel
theorem dX3_fit_31 : decode cX3_fit 31 = .ok (.iconst 0, 1) := by decide +kernel
theorem dX3_fit_32 : decode cX3_fit 32 = .ok (.ireturn, 1) := by decide +kernel
theorem dX3_fit_33 : decode cX3_fit 33 = .ok (.iinc 2 2, 3) := by decide +kernel
theorem dX3_fit_36 : decode cX3_fit 36 = .ok (.goto (-34), 3) := by decide +kernel
theorem dX3_fit_39 : decode cX3_fit 39 = .ok (.iconst 1, 1) := by decide +kernel
theorem dX3_fit_40 : decode cX3_fit 40 = .ok (.ireturn, 1) := by decide +kernel
theorem dX3_fittingKinds_0 : decode cX3_fittingKinds 0 = .ok (.iconst 0, 1) := by decide +kernel
theorem dX3_fittingKinds_1 : decode cX3_fittingKinds 1 = .ok (.istore_n 1, 1) := by decide +kernel
theorem dX3_fittingKinds_2 : decode cX3_fittingKinds 2 = .ok (.iconst 0, 1) := by decide +kernel
theorem dX3_fittingKinds_3 : decode cX3_fittingKinds 3 = .ok (.istore_n 2, 1) := by decide +kernel
theorem dX3_fittingKinds_4 : decode cX3_fittingKinds 4 = .ok (.iload_n 2, 1) := by decide +kernel
theorem dX3_fittingKinds_5 : decode cX3_fittingKinds 5 = .ok (.bipush 6, 2) := by decide +kernel
theorem dX3_fittingKinds_7 : decode cX3_fittingKinds 7 = .ok (.if_icmp .ge 27, 3) := by decide +kernel
theorem dX3_fittingKinds_10 : decode cX3_fittingKinds 10 = .ok (.iload_n 1, 1) := by decide +kernel
theorem dX3_fittingKinds_11 : decode cX3_fittingKinds 11 = .ok (.aload_n 0, 1) := by decide +kernel
theorem dX3_fittingKinds_12 : decode cX3_fittingKinds 12 = .ok (.iload_n 2, 1) := by decide +kernel
theorem dX3_fittingKinds_13 : decode cX3_fittingKinds 13 = .ok (.invokestatic 23, 3) := by decide +kernel
theorem dX3_fittingKinds_16 : decode cX3_fittingKinds 16 = .ok (.ifCond .eq 9, 3) := by decide +kernel
theorem dX3_fittingKinds_19 : decode cX3_fittingKinds 19 = .ok (.iconst 1, 1) := by decide +kernel
theorem dX3_fittingKinds_20 : decode cX3_fittingKinds 20 = .ok (.iload_n 2, 1) := by decide +kernel
theorem dX3_fittingKinds_21 : decode cX3_fittingKinds 21 = .ok (.ishl, 1) := by decide +kernel
theorem dX3_fittingKinds_22 : decode cX3_fittingKinds 22 = .ok (.goto 4, 3) := by decide +kernel
theorem dX3_fittingKinds_25 : decode cX3_fittingKinds 25 = .ok (.iconst 0, 1) := by decide +kernel
theorem dX3_fittingKinds_26 : decode cX3_fittingKinds 26 = .ok (.ior, 1) := by decide +kernel
theorem dX3_fittingKinds_27 : decode cX3_fittingKinds 27 = .ok (.istore_n 1, 1) := by decide +kernel
theorem dX3_fittingKinds_28 : decode cX3_fittingKinds 28 = .ok (.iinc 2 1, 3) := by decide +kernel
theorem dX3_fittingKinds_31 : decode cX3_fittingKinds 31 = .ok (.goto (-27), 3) := by decide +kernel
theorem dX3_fittingKinds_34 : decode cX3_fittingKinds 34 = .ok (.iload_n 1, 1) := by decide +kernel
theorem dX3_fittingKinds_35 : decode cX3_fittingKinds 35 = .ok (.ireturn, 1) := by decide +kernel
theorem dX3_greatestPart_0 : decode cX3_greatestPart 0 = .ok (.iconst 0, 1) := by decide +kernel
theorem dX3_greatestPart_1 : decode cX3_greatestPart 1 = .ok (.istore_n 2, 1) := by decide +kernel
theorem dX3_greatestPart_2 : decode cX3_greatestPart 2 = .ok (.iconst 0, 1) := by decide +kernel
theorem dX3_greatestPart_3 : decode cX3_greatestPart 3 = .ok (.istore_n 3, 1) := by decide +kernel
theorem dX3_greatestPart_4 : decode cX3_greatestPart 4 = .ok (.iload_n 3, 1) := by decide +kernel
theorem dX3_greatestPart_5 : decode cX3_greatestPart 5 = .ok (.bipush 6, 2) := by decide +kernel
theorem dX3_greatestPart_7 : decode cX3_greatestPart 7 = .ok (.if_icmp .ge 29, 3) := by decide +kernel
theorem dX3_greatestPart_10 : decode cX3_greatestPart 10 = .ok (.iload_n 0, 1) := by decide +kernel
theorem dX3_greatestPart_11 : decode cX3_greatestPart 11 = .ok (.iload_n 3, 1) := by decide +kernel
theorem dX3_greatestPart_12 : decode cX3_greatestPart 12 = .ok (.ishr, 1) := by decide +kernel
theorem dX3_greatestPart_13 : decode cX3_greatestPart 13 = .ok (.iconst 1, 1) := by decide +kernel
theorem dX3_greatestPart_14 : decode cX3_greatestPart 14 = .ok (.iand, 1) := by decide +kernel
theorem dX3_greatestPart_15 : decode cX3_greatestPart 15 = .ok (.iconst 1, 1) := by decide +kernel
theorem dX3_greatestPart_16 : decode cX3_greatestPart 16 = .ok (.if_icmp .ne 14, 3) := by decide +kernel
theorem dX3_greatestPart_19 : decode cX3_greatestPart 19 = .ok (.iload_n 2, 1) := by decide +kernel
theorem dX3_greatestPart_20 : decode cX3_greatestPart 20 = .ok (.iload_n 0, 1) := by decide +kernel
theorem dX3_greatestPart_21 : decode cX3_greatestPart 21 = .ok (.iload_n 3, 1) := by decide +kernel
theorem dX3_greatestPart_22 : decode cX3_greatestPart 22 = .ok (.iload_n 1, 1) := by decide +kernel
theorem dX3_greatestPart_23 : decode cX3_greatestPart 23 = .ok (.invokestatic 29, 3) := by decide +kernel
theorem dX3_greatestPart_26 : decode cX3_greatestPart 26 = .ok (.invokestatic 33, 3) := by decide +kernel
theorem dX3_greatestPart_29 : decode cX3_greatestPart 29 = .ok (.istore_n 2, 1) := by decide +kernel
theorem dX3_greatestPart_30 : decode cX3_greatestPart 30 = .ok (.iinc 3 1, 3) := by decide +kernel
theorem dX3_greatestPart_33 : decode cX3_greatestPart 33 = .ok (.goto (-29), 3) := by decide +kernel
theorem dX3_greatestPart_36 : decode cX3_greatestPart 36 = .ok (.iload_n 2, 1) := by decide +kernel
theorem dX3_greatestPart_37 : decode cX3_greatestPart 37 = .ok (.ireturn, 1) := by decide +kernel
theorem dX3_partLike_0 : decode cX3_partLike 0 = .ok (.iconst 0, 1) := by decide +kernel
theorem dX3_partLike_1 : decode cX3_partLike 1 = .ok (.istore_n 3, 1) := by decide +kernel
theorem dX3_partLike_2 : decode cX3_partLike 2 = .ok (.iconst 0, 1) := by decide +kernel
theorem dX3_partLike_3 : decode cX3_partLike 3 = .ok (.istore 4, 2) := by decide +kernel
theorem dX3_partLike_5 : decode cX3_partLike 5 = .ok (.iload 4, 2) := by decide +kernel
theorem dX3_partLike_7 : decode cX3_partLike 7 = .ok (.bipush 6, 2) := by decide +kernel
theorem dX3_partLike_9 : decode cX3_partLike 9 = .ok (.if_icmp .ge 48, 3) := by decide +kernel
theorem dX3_partLike_12 : decode cX3_partLike 12 = .ok (.iload 4, 2) := by decide +kernel
theorem dX3_partLike_14 : decode cX3_partLike 14 = .ok (.iload_n 2, 1) := by decide +kernel
theorem dX3_partLike_15 : decode cX3_partLike 15 = .ok (.invokestatic 17, 3) := by decide +kernel
theorem dX3_partLike_18 : decode cX3_partLike 18 = .ok (.iload_n 1, 1) := by decide +kernel
theorem dX3_partLike_19 : decode cX3_partLike 19 = .ok (.iload_n 2, 1) := by decide +kernel
theorem dX3_partLike_20 : decode cX3_partLike 20 = .ok (.invokestatic 17, 3) := by decide +kernel
theorem dX3_partLike_23 : decode cX3_partLike 23 = .ok (.if_icmp .ne 7, 3) := by decide +kernel
theorem dX3_partLike_26 : decode cX3_partLike 26 = .ok (.iconst 1, 1) := by decide +kernel
theorem dX3_partLike_27 : decode cX3_partLike 27 = .ok (.goto 4, 3) := by decide +kernel
theorem dX3_partLike_30 : decode cX3_partLike 30 = .ok (.iconst 0, 1) := by decide +kernel
theorem dX3_partLike_31 : decode cX3_partLike 31 = .ok (.istore 5, 2) := by decide +kernel
theorem dX3_partLike_33 : decode cX3_partLike 33 = .ok (.iload_n 3, 1) := by decide +kernel
theorem dX3_partLike_34 : decode cX3_partLike 34 = .ok (.iload 5, 2) := by decide +kernel
theorem dX3_partLike_36 : decode cX3_partLike 36 = .ok (.ifCond .eq 12, 3) := by decide +kernel
theorem dX3_partLike_39 : decode cX3_partLike 39 = .ok (.iload_n 0, 1) := by decide +kernel
theorem dX3_partLike_40 : decode cX3_partLike 40 = .ok (.iload 4, 2) := by decide +kernel
theorem dX3_partLike_42 : decode cX3_partLike 42 = .ok (.ishr, 1) := by decide +kernel
theorem dX3_partLike_43 : decode cX3_partLike 43 = .ok (.iconst 1, 1) := by decide +kernel
theorem dX3_partLike_44 : decode cX3_partLike 44 = .ok (.iand, 1) := by decide +kernel
theorem dX3_partLike_45 : decode cX3_partLike 45 = .ok (.goto 4, 3) := by decide +kernel
theorem dX3_partLike_48 : decode cX3_partLike 48 = .ok (.iconst 0, 1) := by decide +kernel
theorem dX3_partLike_49 : decode cX3_partLike 49 = .ok (.iadd, 1) := by decide +kernel
theorem dX3_partLike_50 : decode cX3_partLike 50 = .ok (.istore_n 3, 1) := by decide +kernel
theorem dX3_partLike_51 : decode cX3_partLike 51 = .ok (.iinc 4 1, 3) := by decide +kernel
theorem dX3_partLike_54 : decode cX3_partLike 54 = .ok (.goto (-49), 3) := by decide +kernel
theorem dX3_partLike_57 : decode cX3_partLike 57 = .ok (.iload_n 3, 1) := by decide +kernel
theorem dX3_partLike_58 : decode cX3_partLike 58 = .ok (.ireturn, 1) := by decide +kernel
theorem dX3_leaksBy_0 : decode cX3_leaksBy 0 = .ok (.iconst 0, 1) := by decide +kernel
theorem dX3_leaksBy_1 : decode cX3_leaksBy 1 = .ok (.istore_n 2, 1) := by decide +kernel
theorem dX3_leaksBy_2 : decode cX3_leaksBy 2 = .ok (.iload_n 2, 1) := by decide +kernel
theorem dX3_leaksBy_3 : decode cX3_leaksBy 3 = .ok (.iconst 1, 1) := by decide +kernel
theorem dX3_leaksBy_4 : decode cX3_leaksBy 4 = .ok (.iadd, 1) := by decide +kernel
theorem dX3_leaksBy_5 : decode cX3_leaksBy 5 = .ok (.aload_n 0, 1) := by decide +kernel
theorem dX3_leaksBy_6 : decode cX3_leaksBy 6 = .ok (.getfield 7, 3) := by decide +kernel
theorem dX3_leaksBy_9 : decode cX3_leaksBy 9 = .ok (.if_icmp .ge 32, 3) := by decide +kernel
theorem dX3_leaksBy_12 : decode cX3_leaksBy 12 = .ok (.aload_n 0, 1) := by decide +kernel
theorem dX3_leaksBy_13 : decode cX3_leaksBy 13 = .ok (.iload_n 2, 1) := by decide +kernel
theorem dX3_leaksBy_14 : decode cX3_leaksBy 14 = .ok (.iconst 1, 1) := by decide +kernel
theorem dX3_leaksBy_15 : decode cX3_leaksBy 15 = .ok (.iadd, 1) := by decide +kernel
theorem dX3_leaksBy_16 : decode cX3_leaksBy 16 = .ok (.invokevirtual 13, 3) := by decide +kernel
theorem dX3_leaksBy_19 : decode cX3_leaksBy 19 = .ok (.iconst 0, 1) := by decide +kernel
theorem dX3_leaksBy_20 : decode cX3_leaksBy 20 = .ok (.aload_n 0, 1) := by decide +kernel
theorem dX3_leaksBy_21 : decode cX3_leaksBy 21 = .ok (.iload_n 2, 1) := by decide +kernel
theorem dX3_leaksBy_22 : decode cX3_leaksBy 22 = .ok (.invokevirtual 13, 3) := by decide +kernel
theorem dX3_leaksBy_25 : decode cX3_leaksBy 25 = .ok (.iload_n 1, 1) := by decide +kernel
theorem dX3_leaksBy_26 : decode cX3_leaksBy 26 = .ok (.isub, 1) := by decide +kernel
theorem dX3_leaksBy_27 : decode cX3_leaksBy 27 = .ok (.invokestatic 33, 3) := by decide +kernel
theorem dX3_leaksBy_30 : decode cX3_leaksBy 30 = .ok (.if_icmp .eq 5, 3) := by decide +kernel
theorem dX3_leaksBy_33 : decode cX3_leaksBy 33 = .ok (.iconst 0, 1) := by decide +kernel
theorem dX3_leaksBy_34 : decode cX3_leaksBy 34 = .ok (.ireturn, 1) := by decide +kernel
theorem dX3_leaksBy_35 : decode cX3_leaksBy 35 = .ok (.iinc 2 1, 3) := by decide +kernel
theorem dX3_leaksBy_38 : decode cX3_leaksBy 38 = .ok (.goto (-36), 3) := by decide +kernel
theorem dX3_leaksBy_41 : decode cX3_leaksBy 41 = .ok (.iconst 1, 1) := by decide +kernel
theorem dX3_leaksBy_42 : decode cX3_leaksBy 42 = .ok (.ireturn, 1) := by decide +kernel
theorem dX4_init_0 : decode cX4_init 0 = .ok (.aload_n 0, 1) := by decide +kernel
theorem dX4_init_1 : decode cX4_init 1 = .ok (.invokespecial 1, 3) := by decide +kernel
theorem dX4_init_4 : decode cX4_init 4 = .ok (.aload_n 0, 1) := by decide +kernel
theorem dX4_init_5 : decode cX4_init 5 = .ok (.iload_n 1, 1) := by decide +kernel
theorem dX4_init_6 : decode cX4_init 6 = .ok (.newarray .int, 2) := by decide +kernel
theorem dX4_init_8 : decode cX4_init 8 = .ok (.putfield 7, 3) := by decide +kernel
theorem dX4_init_11 : decode cX4_init 11 = .ok (.aload_n 0, 1) := by decide +kernel
theorem dX4_init_12 : decode cX4_init 12 = .ok (.iconst (-1), 1) := by decide +kernel
theorem dX4_init_13 : decode cX4_init 13 = .ok (.putfield 13, 3) := by decide +kernel
theorem dX4_init_16 : decode cX4_init 16 = .ok (.return_, 1) := by decide +kernel
theorem dX4_isThere_0 : decode cX4_isThere 0 = .ok (.aload_n 0, 1) := by decide +kernel
theorem dX4_isThere_1 : decode cX4_isThere 1 = .ok (.getfield 13, 3) := by decide +kernel
theorem dX4_isThere_4 : decode cX4_isThere 4 = .ok (.ifCond .lt 7, 3) := by decide +kernel
theorem dX4_isThere_7 : decode cX4_isThere 7 = .ok (.iconst 1, 1) := by decide +kernel
theorem dX4_isThere_8 : decode cX4_isThere 8 = .ok (.goto 4, 3) := by decide +kernel
theorem dX4_isThere_11 : decode cX4_isThere 11 = .ok (.iconst 0, 1) := by decide +kernel
theorem dX4_isThere_12 : decode cX4_isThere 12 = .ok (.ireturn, 1) := by decide +kernel
theorem dX4_has_0 : decode cX4_has 0 = .ok (.iload_n 1, 1) := by decide +kernel
theorem dX4_has_1 : decode cX4_has 1 = .ok (.ifCond .lt 24, 3) := by decide +kernel
theorem dX4_has_4 : decode cX4_has 4 = .ok (.iload_n 1, 1) := by decide +kernel
theorem dX4_has_5 : decode cX4_has 5 = .ok (.aload_n 0, 1) := by decide +kernel
theorem dX4_has_6 : decode cX4_has 6 = .ok (.getfield 13, 3) := by decide +kernel
theorem dX4_has_9 : decode cX4_has 9 = .ok (.if_icmp .ge 16, 3) := by decide +kernel
theorem dX4_has_12 : decode cX4_has 12 = .ok (.iload_n 1, 1) := by decide +kernel
theorem dX4_has_13 : decode cX4_has 13 = .ok (.aload_n 0, 1) := by decide +kernel
theorem dX4_has_14 : decode cX4_has 14 = .ok (.getfield 7, 3) := by decide +kernel
theorem dX4_has_17 : decode cX4_has 17 = .ok (.arraylength, 1) := by decide +kernel
theorem dX4_has_18 : decode cX4_has 18 = .ok (.if_icmp .ge 7, 3) := by decide +kernel
theorem dX4_has_21 : decode cX4_has 21 = .ok (.iconst 1, 1) := by decide +kernel
theorem dX4_has_22 : decode cX4_has 22 = .ok (.goto 4, 3) := by decide +kernel
theorem dX4_has_25 : decode cX4_has 25 = .ok (.iconst 0, 1) := by decide +kernel
theorem dX4_has_26 : decode cX4_has 26 = .ok (.ireturn, 1) := by decide +kernel
theorem dX4_holds_0 : decode cX4_holds 0 = .ok (.iload_n 1, 1) := by decide +kernel
theorem dX4_holds_1 : decode cX4_holds 1 = .ok (.ifCond .lt 29, 3) := by decide +kernel
theorem dX4_holds_4 : decode cX4_holds 4 = .ok (.iload_n 2, 1) := by decide +kernel
theorem dX4_holds_5 : decode cX4_holds 5 = .ok (.ifCond .lt 25, 3) := by decide +kernel
theorem dX4_holds_8 : decode cX4_holds 8 = .ok (.iload_n 2, 1) := by decide +kernel
theorem dX4_holds_9 : decode cX4_holds 9 = .ok (.aload_n 0, 1) := by decide +kernel
theorem dX4_holds_10 : decode cX4_holds 10 = .ok (.getfield 13, 3) := by decide +kernel
theorem dX4_holds_13 : decode cX4_holds 13 = .ok (.if_icmp .gt 17, 3) := by decide +kernel
theorem dX4_holds_16 : decode cX4_holds 16 = .ok (.iload_n 1, 1) := by decide +kernel
theorem dX4_holds_17 : decode cX4_holds 17 = .ok (.aload_n 0, 1) := by decide +kernel
theorem dX4_holds_18 : decode cX4_holds 18 = .ok (.getfield 13, 3) := by decide +kernel
theorem dX4_holds_21 : decode cX4_holds 21 = .ok (.iload_n 2, 1) := by decide +kernel
theorem dX4_holds_22 : decode cX4_holds 22 = .ok (.isub, 1) := by decide +kernel
theorem dX4_holds_23 : decode cX4_holds 23 = .ok (.if_icmp .gt 7, 3) := by decide +kernel
theorem dX4_holds_26 : decode cX4_holds 26 = .ok (.iconst 1, 1) := by decide +kernel
theorem dX4_holds_27 : decode cX4_holds 27 = .ok (.goto 4, 3) := by decide +kernel
theorem dX4_holds_30 : decode cX4_holds 30 = .ok (.iconst 0, 1) := by decide +kernel
theorem dX4_holds_31 : decode cX4_holds 31 = .ok (.ireturn, 1) := by decide +kernel
theorem dX4_read_0 : decode cX4_read 0 = .ok (.aload_n 0, 1) := by decide +kernel
theorem dX4_read_1 : decode cX4_read 1 = .ok (.iload_n 1, 1) := by decide +kernel
theorem dX4_read_2 : decode cX4_read 2 = .ok (.invokevirtual 17, 3) := by decide +kernel
theorem dX4_read_5 : decode cX4_read 5 = .ok (.ifCond .eq 12, 3) := by decide +kernel
theorem dX4_read_8 : decode cX4_read 8 = .ok (.aload_n 0, 1) := by decide +kernel
theorem dX4_read_9 : decode cX4_read 9 = .ok (.getfield 7, 3) := by decide +kernel
theorem dX4_read_12 : decode cX4_read 12 = .ok (.iload_n 1, 1) := by decide +kernel
theorem dX4_read_13 : decode cX4_read 13 = .ok (.iaload, 1) := by decide +kernel
theorem dX4_read_14 : decode cX4_read 14 = .ok (.goto 4, 3) := by decide +kernel
theorem dX4_read_17 : decode cX4_read 17 = .ok (.iconst 0, 1) := by decide +kernel
theorem dX4_read_18 : decode cX4_read 18 = .ok (.ireturn, 1) := by decide +kernel
theorem dX4_write_0 : decode cX4_write 0 = .ok (.aload_n 0, 1) := by decide +kernel
theorem dX4_write_1 : decode cX4_write 1 = .ok (.iload_n 1, 1) := by decide +kernel
theorem dX4_write_2 : decode cX4_write 2 = .ok (.invokevirtual 17, 3) := by decide +kernel
theorem dX4_write_5 : decode cX4_write 5 = .ok (.ifCond .eq 10, 3) := by decide +kernel
theorem dX4_write_8 : decode cX4_write 8 = .ok (.aload_n 0, 1) := by decide +kernel
theorem dX4_write_9 : decode cX4_write 9 = .ok (.getfield 7, 3) := by decide +kernel
theorem dX4_write_12 : decode cX4_write 12 = .ok (.iload_n 1, 1) := by decide +kernel
theorem dX4_write_13 : decode cX4_write 13 = .ok (.iload_n 2, 1) := by decide +kernel
theorem dX4_write_14 : decode cX4_write 14 = .ok (.iastore, 1) := by decide +kernel
theorem dX4_write_15 : decode cX4_write 15 = .ok (.return_, 1) := by decide +kernel
theorem dX4_renew_0 : decode cX4_renew 0 = .ok (.aload_n 0, 1) := by decide +kernel
theorem dX4_renew_1 : decode cX4_renew 1 = .ok (.iload_n 1, 1) := by decide +kernel
theorem dX4_renew_2 : decode cX4_renew 2 = .ok (.aload_n 0, 1) := by decide +kernel
theorem dX4_renew_3 : decode cX4_renew 3 = .ok (.getfield 7, 3) := by decide +kernel
theorem dX4_renew_6 : decode cX4_renew 6 = .ok (.arraylength, 1) := by decide +kernel
theorem dX4_renew_7 : decode cX4_renew 7 = .ok (.invokestatic 21, 3) := by decide +kernel
theorem dX4_renew_10 : decode cX4_renew 10 = .ok (.putfield 13, 3) := by decide +kernel
theorem dX4_renew_13 : decode cX4_renew 13 = .ok (.iconst 0, 1) := by decide +kernel
theorem dX4_renew_14 : decode cX4_renew 14 = .ok (.istore_n 3, 1) := by decide +kernel
theorem dX4_renew_15 : decode cX4_renew 15 = .ok (.iload_n 3, 1) := by decide +kernel
theorem dX4_renew_16 : decode cX4_renew 16 = .ok (.aload_n 0, 1) := by decide +kernel
theorem dX4_renew_17 : decode cX4_renew 17 = .ok (.getfield 13, 3) := by decide +kernel
theorem dX4_renew_20 : decode cX4_renew 20 = .ok (.if_icmp .ge 16, 3) := by decide +kernel
theorem dX4_renew_23 : decode cX4_renew 23 = .ok (.aload_n 0, 1) := by decide +kernel
theorem dX4_renew_24 : decode cX4_renew 24 = .ok (.getfield 7, 3) := by decide +kernel
theorem dX4_renew_27 : decode cX4_renew 27 = .ok (.iload_n 3, 1) := by decide +kernel
theorem dX4_renew_28 : decode cX4_renew 28 = .ok (.iload_n 2, 1) := by decide +kernel
theorem dX4_renew_29 : decode cX4_renew 29 = .ok (.iastore, 1) := by decide +kernel
theorem dX4_renew_30 : decode cX4_renew 30 = .ok (.iinc 3 1, 3) := by decide +kernel
theorem dX4_renew_33 : decode cX4_renew 33 = .ok (.goto (-18), 3) := by decide +kernel
theorem dX4_renew_36 : decode cX4_renew 36 = .ok (.return_, 1) := by decide +kernel
theorem dX4_isAllWithin_0 : decode cX4_isAllWithin 0 = .ok (.iconst 0, 1) := by decide +kernel
theorem dX4_isAllWithin_1 : decode cX4_isAllWithin 1 = .ok (.istore_n 3, 1) := by decide +kernel
theorem dX4_isAllWithin_2 : decode cX4_isAllWithin 2 = .ok (.iload_n 3, 1) := by decide +kernel
theorem dX4_isAllWithin_3 : decode cX4_isAllWithin 3 = .ok (.aload_n 0, 1) := by decide +kernel
theorem dX4_isAllWithin_4 : decode cX4_isAllWithin 4 = .ok (.getfield 13, 3) := by decide +kernel
theorem dX4_isAllWithin_7 : decode cX4_isAllWithin 7 = .ok (.if_icmp .ge 24, 3) := by decide +kernel
theorem dX4_isAllWithin_10 : decode cX4_isAllWithin 10 = .ok (.aload_n 0, 1) := by decide +kernel
theorem dX4_isAllWithin_11 : decode cX4_isAllWithin 11 = .ok (.iload_n 3, 1) := by decide +kernel
theorem dX4_isAllWithin_12 : decode cX4_isAllWithin 12 = .ok (.invokevirtual 27, 3) := by decide +kernel
theorem dX4_isAllWithin_15 : decode cX4_isAllWithin 15 = .ok (.iload_n 1, 1) := by decide +kernel
theorem dX4_isAllWithin_16 : decode cX4_isAllWithin 16 = .ok (.iload_n 2, 1) := by decide +kernel
theorem dX4_isAllWithin_17 : decode cX4_isAllWithin 17 = .ok (.invokestatic 31, 3) := by decide +kernel
theorem dX4_isAllWithin_20 : decode cX4_isAllWithin 20 = .ok (.ifCond .ne 5, 3) := by decide +kernel
theorem dX4_isAllWithin_23 : decode cX4_isAllWithin 23 = .ok (.iconst 0, 1) := by decide +kernel
theorem dX4_isAllWithin_24 : decode cX4_isAllWithin 24 = .ok (.ireturn, 1) := by decide +kernel
theorem dX4_isAllWithin_25 : decode cX4_isAllWithin 25 = .ok (.iinc 3 1, 3) := by decide +kernel
theorem dX4_isAllWithin_28 : decode cX4_isAllWithin 28 = .ok (.goto (-26), 3) := by decide +kernel
theorem dX4_isAllWithin_31 : decode cX4_isAllWithin 31 = .ok (.iconst 1, 1) := by decide +kernel
theorem dX4_isAllWithin_32 : decode cX4_isAllWithin 32 = .ok (.ireturn, 1) := by decide +kernel
theorem dX5_faultOf_0 : decode cX5_faultOf 0 = .ok (.iconst 0, 1) := by decide +kernel
theorem dX5_faultOf_1 : decode cX5_faultOf 1 = .ok (.istore_n 1, 1) := by decide +kernel
theorem dX5_faultOf_2 : decode cX5_faultOf 2 = .ok (.iconst 0, 1) := by decide +kernel
theorem dX5_faultOf_3 : decode cX5_faultOf 3 = .ok (.istore_n 2, 1) := by decide +kernel
theorem dX5_faultOf_4 : decode cX5_faultOf 4 = .ok (.iconst 0, 1) := by decide +kernel
theorem dX5_faultOf_5 : decode cX5_faultOf 5 = .ok (.istore_n 3, 1) := by decide +kernel
theorem dX5_faultOf_6 : decode cX5_faultOf 6 = .ok (.iload_n 3, 1) := by decide +kernel
theorem dX5_faultOf_7 : decode cX5_faultOf 7 = .ok (.aload_n 0, 1) := by decide +kernel
theorem dX5_faultOf_8 : decode cX5_faultOf 8 = .ok (.getfield 11, 3) := by decide +kernel
theorem dX5_faultOf_11 : decode cX5_faultOf 11 = .ok (.if_icmp .ge 59, 3) := by decide +kernel
theorem dX5_faultOf_14 : decode cX5_faultOf 14 = .ok (.aload_n 0, 1) := by decide +kernel
theorem dX5_faultOf_15 : decode cX5_faultOf 15 = .ok (.iload_n 3, 1) := by decide +kernel
theorem dX5_faultOf_16 : decode cX5_faultOf 16 = .ok (.invokevirtual 17, 3) := by decide +kernel
theorem dX5_faultOf_19 : decode cX5_faultOf 19 = .ok (.istore 4, 2) := by decide +kernel
theorem dX5_faultOf_21 : decode cX5_faultOf 21 = .ok (.iload 4, 2) := by decide +kernel
theorem dX5_faultOf_23 : decode cX5_faultOf 23 = .ok (.bipush 32, 2) := by decide +kernel
theorem dX5_faultOf_25 : decode cX5_faultOf 25 = .ok (.if_icmp .ne 13, 3) := by decide +kernel
theorem dX5_faultOf_28 : decode cX5_faultOf 28 = .ok (.iload_n 1, 1) := by decide +kernel
theorem dX5_faultOf_29 : decode cX5_faultOf 29 = .ok (.invokestatic 21, 3) := by decide +kernel
theorem dX5_faultOf_32 : decode cX5_faultOf 32 = .ok (.ifCond .eq 6, 3) := by decide +kernel
theorem dX5_faultOf_35 : decode cX5_faultOf 35 = .ok (.goto 29, 3) := by decide +kernel
theorem dX5_faultOf_38 : decode cX5_faultOf 38 = .ok (.iload 4, 2) := by decide +kernel
theorem dX5_faultOf_40 : decode cX5_faultOf 40 = .ok (.iload_n 1, 1) := by decide +kernel
theorem dX5_faultOf_41 : decode cX5_faultOf 41 = .ok (.iload_n 2, 1) := by decide +kernel
theorem dX5_faultOf_42 : decode cX5_faultOf 42 = .ok (.invokestatic 25, 3) := by decide +kernel
theorem dX5_faultOf_45 : decode cX5_faultOf 45 = .ok (.ifCond .ne 5, 3) := by decide +kernel
theorem dX5_faultOf_48 : decode cX5_faultOf 48 = .ok (.iload_n 3, 1) := by decide +kernel
theorem dX5_faultOf_49 : decode cX5_faultOf 49 = .ok (.ireturn, 1) := by decide +kernel
theorem dX5_faultOf_50 : decode cX5_faultOf 50 = .ok (.iload_n 1, 1) := by decide +kernel
theorem dX5_faultOf_51 : decode cX5_faultOf 51 = .ok (.iconst 2, 1) := by decide +kernel
theorem dX5_faultOf_52 : decode cX5_faultOf 52 = .ok (.if_icmp .ne 9, 3) := by decide +kernel
theorem dX5_faultOf_55 : decode cX5_faultOf 55 = .ok (.iload 4, 2) := by decide +kernel
theorem dX5_faultOf_57 : decode cX5_faultOf 57 = .ok (.bipush 48, 2) := by decide +kernel
theorem dX5_faultOf_59 : decode cX5_faultOf 59 = .ok (.isub, 1) := by decide +kernel
theorem dX5_faultOf_60 : decode cX5_faultOf 60 = .ok (.istore_n 2, 1) := by decide +kernel
theorem dX5_faultOf_61 : decode cX5_faultOf 61 = .ok (.iinc 1 1, 3) := by decide +kernel
theorem dX5_faultOf_64 : decode cX5_faultOf 64 = .ok (.iinc 3 1, 3) := by decide +kernel
theorem dX5_faultOf_67 : decode cX5_faultOf 67 = .ok (.goto (-61), 3) := by decide +kernel
theorem dX5_faultOf_70 : decode cX5_faultOf 70 = .ok (.iload_n 1, 1) := by decide +kernel
theorem dX5_faultOf_71 : decode cX5_faultOf 71 = .ok (.iconst 3, 1) := by decide +kernel
theorem dX5_faultOf_72 : decode cX5_faultOf 72 = .ok (.if_icmp .le 14, 3) := by decide +kernel
theorem dX5_faultOf_75 : decode cX5_faultOf 75 = .ok (.iload_n 1, 1) := by decide +kernel
theorem dX5_faultOf_76 : decode cX5_faultOf 76 = .ok (.invokestatic 21, 3) := by decide +kernel
theorem dX5_faultOf_79 : decode cX5_faultOf 79 = .ok (.ifCond .eq 7, 3) := by decide +kernel
theorem dX5_faultOf_82 : decode cX5_faultOf 82 = .ok (.iconst 1, 1) := by decide +kernel
theorem dX5_faultOf_83 : decode cX5_faultOf 83 = .ok (.goto 4, 3) := by decide +kernel
theorem dX5_faultOf_86 : decode cX5_faultOf 86 = .ok (.iconst 0, 1) := by decide +kernel
theorem dX5_faultOf_87 : decode cX5_faultOf 87 = .ok (.istore_n 3, 1) := by decide +kernel
theorem dX5_faultOf_88 : decode cX5_faultOf 88 = .ok (.iload_n 3, 1) := by decide +kernel
theorem dX5_faultOf_89 : decode cX5_faultOf 89 = .ok (.ifCond .eq 8, 3) := by decide +kernel
theorem dX5_faultOf_92 : decode cX5_faultOf 92 = .ok (.bipush (-9), 2) := by decide +kernel
theorem dX5_faultOf_94 : decode cX5_faultOf 94 = .ok (.goto 7, 3) := by decide +kernel
theorem dX5_faultOf_97 : decode cX5_faultOf 97 = .ok (.aload_n 0, 1) := by decide +kernel
theorem dX5_faultOf_98 : decode cX5_faultOf 98 = .ok (.getfield 11, 3) := by decide +kernel
theorem dX5_faultOf_101 : decode cX5_faultOf 101 = .ok (.ireturn, 1) := by decide +kernel
theorem dX5_settle_0 : decode cX5_settle 0 = .ok (.iconst 0, 1) := by decide +kernel
theorem dX5_settle_1 : decode cX5_settle 1 = .ok (.istore_n 2, 1) := by decide +kernel
theorem dX5_settle_2 : decode cX5_settle 2 = .ok (.aload_n 1, 1) := by decide +kernel
theorem dX5_settle_3 : decode cX5_settle 3 = .ok (.iconst 0, 1) := by decide +kernel
theorem dX5_settle_4 : decode cX5_settle 4 = .ok (.putfield 29, 3) := by decide +kernel
theorem dX5_settle_7 : decode cX5_settle 7 = .ok (.iconst 0, 1) := by decide +kernel
theorem dX5_settle_8 : decode cX5_settle 8 = .ok (.istore_n 3, 1) := by decide +kernel
theorem dX5_settle_9 : decode cX5_settle 9 = .ok (.iload_n 3, 1) := by decide +kernel
theorem dX5_settle_10 : decode cX5_settle 10 = .ok (.aload_n 0, 1) := by decide +kernel
theorem dX5_settle_11 : decode cX5_settle 11 = .ok (.getfield 11, 3) := by decide +kernel
theorem dX5_settle_14 : decode cX5_settle 14 = .ok (.if_icmp .ge 101, 3) := by decide +kernel
theorem dX5_settle_17 : decode cX5_settle 17 = .ok (.aload_n 0, 1) := by decide +kernel
theorem dX5_settle_18 : decode cX5_settle 18 = .ok (.iload_n 3, 1) := by decide +kernel
theorem dX5_settle_19 : decode cX5_settle 19 = .ok (.invokevirtual 17, 3) := by decide +kernel
theorem dX5_settle_22 : decode cX5_settle 22 = .ok (.istore 4, 2) := by decide +kernel
theorem dX5_settle_24 : decode cX5_settle 24 = .ok (.iload 4, 2) := by decide +kernel
theorem dX5_settle_26 : decode cX5_settle 26 = .ok (.bipush 32, 2) := by decide +kernel
theorem dX5_settle_28 : decode cX5_settle 28 = .ok (.if_icmp .ne 6, 3) := by decide +kernel
theorem dX5_settle_31 : decode cX5_settle 31 = .ok (.goto 78, 3) := by decide +kernel
theorem dX5_settle_34 : decode cX5_settle 34 = .ok (.iload_n 2, 1) := by decide +kernel
theorem dX5_settle_35 : decode cX5_settle 35 = .ok (.iconst 1, 1) := by decide +kernel
theorem dX5_settle_36 : decode cX5_settle 36 = .ok (.if_icmp .ne 15, 3) := by decide +kernel
theorem dX5_settle_39 : decode cX5_settle 39 = .ok (.aload_n 1, 1) := by decide +kernel
theorem dX5_settle_40 : decode cX5_settle 40 = .ok (.iload 4, 2) := by decide +kernel
theorem dX5_settle_42 : decode cX5_settle 42 = .ok (.bipush 48, 2) := by decide +kernel
theorem dX5_settle_44 : decode cX5_settle 44 = .ok (.isub, 1) := by decide +kernel
theorem dX5_settle_45 : decode cX5_settle 45 = .ok (.putfield 34, 3) := by decide +kernel
theorem dX5_settle_48 : decode cX5_settle 48 = .ok (.goto 58, 3) := by decide +kernel
theorem dX5_settle_51 : decode cX5_settle 51 = .ok (.iload_n 2, 1) := by decide +kernel
theorem dX5_settle_52 : decode cX5_settle 52 = .ok (.iconst 2, 1) := by decide +kernel
theorem dX5_settle_53 : decode cX5_settle 53 = .ok (.if_icmp .ne 15, 3) := by decide +kernel
theorem dX5_settle_56 : decode cX5_settle 56 = .ok (.aload_n 1, 1) := by decide +kernel
theorem dX5_settle_57 : decode cX5_settle 57 = .ok (.iload 4, 2) := by decide +kernel
theorem dX5_settle_59 : decode cX5_settle 59 = .ok (.bipush 48, 2) := by decide +kernel
theorem dX5_settle_61 : decode cX5_settle 61 = .ok (.isub, 1) := by decide +kernel
theorem dX5_settle_62 : decode cX5_settle 62 = .ok (.putfield 37, 3) := by decide +kernel
theorem dX5_settle_65 : decode cX5_settle 65 = .ok (.goto 41, 3) := by decide +kernel
theorem dX5_settle_68 : decode cX5_settle 68 = .ok (.iload_n 2, 1) := by decide +kernel
theorem dX5_settle_69 : decode cX5_settle 69 = .ok (.iconst 3, 1) := by decide +kernel
theorem dX5_settle_70 : decode cX5_settle 70 = .ok (.if_icmp .lt 22, 3) := by decide +kernel
theorem dX5_settle_73 : decode cX5_settle 73 = .ok (.iload_n 2, 1) := by decide +kernel
theorem dX5_settle_74 : decode cX5_settle 74 = .ok (.invokestatic 21, 3) := by decide +kernel
theorem dX5_settle_77 : decode cX5_settle 77 = .ok (.ifCond .eq 15, 3) := by decide +kernel
theorem dX5_settle_80 : decode cX5_settle 80 = .ok (.aload_n 1, 1) := by decide +kernel
theorem dX5_settle_81 : decode cX5_settle 81 = .ok (.iload 4, 2) := by decide +kernel
theorem dX5_settle_83 : decode cX5_settle 83 = .ok (.invokestatic 40, 3) := by decide +kernel
theorem dX5_settle_86 : decode cX5_settle 86 = .ok (.invokevirtual 45, 3) := by decide +kernel
theorem dX5_settle_89 : decode cX5_settle 89 = .ok (.goto 17, 3) := by decide +kernel
theorem dX5_settle_92 : decode cX5_settle 92 = .ok (.iload_n 2, 1) := by decide +kernel
theorem dX5_settle_93 : decode cX5_settle 93 = .ok (.iconst 3, 1) := by decide +kernel
theorem dX5_settle_94 : decode cX5_settle 94 = .ok (.if_icmp .le 12, 3) := by decide +kernel
theorem dX5_settle_97 : decode cX5_settle 97 = .ok (.aload_n 1, 1) := by decide +kernel
theorem dX5_settle_98 : decode cX5_settle 98 = .ok (.iload 4, 2) := by decide +kernel
theorem dX5_settle_100 : decode cX5_settle 100 = .ok (.bipush 48, 2) := by decide +kernel
theorem dX5_settle_102 : decode cX5_settle 102 = .ok (.isub, 1) := by decide +kernel
theorem dX5_settle_103 : decode cX5_settle 103 = .ok (.invokevirtual 49, 3) := by decide +kernel
theorem dX5_settle_106 : decode cX5_settle 106 = .ok (.iinc 2 1, 3) := by decide +kernel
theorem dX5_settle_109 : decode cX5_settle 109 = .ok (.iinc 3 1, 3) := by decide +kernel
theorem dX5_settle_112 : decode cX5_settle 112 = .ok (.goto (-103), 3) := by decide +kernel
theorem dX5_settle_115 : decode cX5_settle 115 = .ok (.return_, 1) := by decide +kernel
theorem dX5_isBetweenItems_0 : decode cX5_isBetweenItems 0 = .ok (.iload_n 0, 1) := by decide +kernel
theorem dX5_isBetweenItems_1 : decode cX5_isBetweenItems 1 = .ok (.ifCond .eq 16, 3) := by decide +kernel
theorem dX5_isBetweenItems_4 : decode cX5_isBetweenItems 4 = .ok (.iload_n 0, 1) := by decide +kernel
theorem dX5_isBetweenItems_5 : decode cX5_isBetweenItems 5 = .ok (.iconst 3, 1) := by decide +kernel
theorem dX5_isBetweenItems_6 : decode cX5_isBetweenItems 6 = .ok (.if_icmp .lt 15, 3) := by decide +kernel
theorem dX5_isBetweenItems_9 : decode cX5_isBetweenItems 9 = .ok (.iload_n 0, 1) := by decide +kernel
theorem dX5_isBetweenItems_10 : decode cX5_isBetweenItems 10 = .ok (.iconst 3, 1) := by decide +kernel
theorem dX5_isBetweenItems_11 : decode cX5_isBetweenItems 11 = .ok (.isub, 1) := by decide +kernel
theorem dX5_isBetweenItems_12 : decode cX5_isBetweenItems 12 = .ok (.iconst 2, 1) := by decide +kernel
theorem dX5_isBetweenItems_13 : decode cX5_isBetweenItems 13 = .ok (.irem, 1) := by decide +kernel
theorem dX5_isBetweenItems_14 : decode cX5_isBetweenItems 14 = .ok (.ifCond .ne 7, 3) := by decide +kernel
theorem dX5_isBetweenItems_17 : decode cX5_isBetweenItems 17 = .ok (.iconst 1, 1) := by decide +kernel
theorem dX5_isBetweenItems_18 : decode cX5_isBetweenItems 18 = .ok (.goto 4, 3) := by decide +kernel
theorem dX5_isBetweenItems_21 : decode cX5_isBetweenItems 21 = .ok (.iconst 0, 1) := by decide +kernel
theorem dX5_isBetweenItems_22 : decode cX5_isBetweenItems 22 = .ok (.ireturn, 1) := by decide +kernel
theorem dX5_fits_0 : decode cX5_fits 0 = .ok (.iload_n 1, 1) := by decide +kernel
theorem dX5_fits_1 : decode cX5_fits 1 = .ok (.bipush 15, 2) := by decide +kernel
theorem dX5_fits_3 : decode cX5_fits 3 = .ok (.if_icmp .lt 5, 3) := by decide +kernel
theorem dX5_fits_6 : decode cX5_fits 6 = .ok (.iconst 0, 1) := by decide +kernel
theorem dX5_fits_7 : decode cX5_fits 7 = .ok (.ireturn, 1) := by decide +kernel
theorem dX5_fits_8 : decode cX5_fits 8 = .ok (.iload_n 1, 1) := by decide +kernel
theorem dX5_fits_9 : decode cX5_fits 9 = .ok (.ifCond .ne 15, 3) := by decide +kernel
theorem dX5_fits_12 : decode cX5_fits 12 = .ok (.iload_n 0, 1) := by decide +kernel
theorem dX5_fits_13 : decode cX5_fits 13 = .ok (.bipush 112, 2) := by decide +kernel
theorem dX5_fits_15 : decode cX5_fits 15 = .ok (.if_icmp .ne 7, 3) := by decide +kernel
theorem dX5_fits_18 : decode cX5_fits 18 = .ok (.iconst 1, 1) := by decide +kernel
theorem dX5_fits_19 : decode cX5_fits 19 = .ok (.goto 4, 3) := by decide +kernel
theorem dX5_fits_22 : decode cX5_fits 22 = .ok (.iconst 0, 1) := by decide +kernel
theorem dX5_fits_23 : decode cX5_fits 23 = .ok (.ireturn, 1) := by decide +kernel
theorem dX5_fits_24 : decode cX5_fits 24 = .ok (.iload_n 1, 1) := by decide +kernel
theorem dX5_fits_25 : decode cX5_fits 25 = .ok (.iconst 1, 1) := by decide +kernel
theorem dX5_fits_26 : decode cX5_fits 26 = .ok (.if_icmp .ne 12, 3) := by decide +kernel
theorem dX5_fits_29 : decode cX5_fits 29 = .ok (.iload_n 0, 1) := by decide +kernel
theorem dX5_fits_30 : decode cX5_fits 30 = .ok (.bipush 48, 2) := by decide +kernel
theorem dX5_fits_32 : decode cX5_fits 32 = .ok (.bipush 57, 2) := by decide +kernel
theorem dX5_fits_34 : decode cX5_fits 34 = .ok (.invokestatic 52, 3) := by decide +kernel
theorem dX5_fits_37 : decode cX5_fits 37 = .ok (.ireturn, 1) := by decide +kernel
theorem dX5_fits_38 : decode cX5_fits 38 = .ok (.iload_n 1, 1) := by decide +kernel
theorem dX5_fits_39 : decode cX5_fits 39 = .ok (.iconst 2, 1) := by decide +kernel
theorem dX5_fits_40 : decode cX5_fits 40 = .ok (.if_icmp .ne 12, 3) := by decide +kernel
theorem dX5_fits_43 : decode cX5_fits 43 = .ok (.iload_n 0, 1) := by decide +kernel
theorem dX5_fits_44 : decode cX5_fits 44 = .ok (.bipush 51, 2) := by decide +kernel
theorem dX5_fits_46 : decode cX5_fits 46 = .ok (.bipush 56, 2) := by decide +kernel
theorem dX5_fits_48 : decode cX5_fits 48 = .ok (.invokestatic 52, 3) := by decide +kernel
theorem dX5_fits_51 : decode cX5_fits 51 = .ok (.ireturn, 1) := by decide +kernel
theorem dX5_fits_52 : decode cX5_fits 52 = .ok (.iload_n 1, 1) := by decide +kernel
theorem dX5_fits_53 : decode cX5_fits 53 = .ok (.invokestatic 21, 3) := by decide +kernel
theorem dX5_fits_56 : decode cX5_fits 56 = .ok (.ifCond .eq 18, 3) := by decide +kernel
theorem dX5_fits_59 : decode cX5_fits 59 = .ok (.iload_n 0, 1) := by decide +kernel
theorem dX5_fits_60 : decode cX5_fits 60 = .ok (.invokestatic 40, 3) := by decide +kernel
theorem dX5_fits_63 : decode cX5_fits 63 = .ok (.bipush (-9), 2) := by decide +kernel
theorem dX5_fits_65 : decode cX5_fits 65 = .ok (.if_icmp .eq 7, 3) := by decide +kernel
theorem dX5_fits_68 : decode cX5_fits 68 = .ok (.iconst 1, 1) := by decide +kernel
theorem dX5_fits_69 : decode cX5_fits 69 = .ok (.goto 4, 3) := by decide +kernel
theorem dX5_fits_72 : decode cX5_fits 72 = .ok (.iconst 0, 1) := by decide +kernel
theorem dX5_fits_73 : decode cX5_fits 73 = .ok (.ireturn, 1) := by decide +kernel
theorem dX5_fits_74 : decode cX5_fits 74 = .ok (.iload_n 0, 1) := by decide +kernel
theorem dX5_fits_75 : decode cX5_fits 75 = .ok (.bipush 48, 2) := by decide +kernel
theorem dX5_fits_77 : decode cX5_fits 77 = .ok (.bipush 48, 2) := by decide +kernel
theorem dX5_fits_79 : decode cX5_fits 79 = .ok (.iload_n 2, 1) := by decide +kernel
theorem dX5_fits_80 : decode cX5_fits 80 = .ok (.iadd, 1) := by decide +kernel
theorem dX5_fits_81 : decode cX5_fits 81 = .ok (.iconst 1, 1) := by decide +kernel
theorem dX5_fits_82 : decode cX5_fits 82 = .ok (.isub, 1) := by decide +kernel
theorem dX5_fits_83 : decode cX5_fits 83 = .ok (.invokestatic 52, 3) := by decide +kernel
theorem dX5_fits_86 : decode cX5_fits 86 = .ok (.ireturn, 1) := by decide +kernel
theorem dX6_init_0 : decode cX6_init 0 = .ok (.aload_n 0, 1) := by decide +kernel
theorem dX6_init_1 : decode cX6_init 1 = .ok (.invokespecial 3, 3) := by decide +kernel
theorem dX6_init_4 : decode cX6_init 4 = .ok (.aload_n 0, 1) := by decide +kernel
theorem dX6_init_5 : decode cX6_init 5 = .ok (.iconst 4, 1) := by decide +kernel
theorem dX6_init_6 : decode cX6_init 6 = .ok (.bipush 8, 2) := by decide +kernel
theorem dX6_init_8 : decode cX6_init 8 = .ok (.multianewarray 9 2, 4) := by decide +kernel
theorem dX6_init_12 : decode cX6_init 12 = .ok (.putfield 11, 3) := by decide +kernel
theorem dX6_init_15 : decode cX6_init 15 = .ok (.return_, 1) := by decide +kernel
theorem dX6_play_0 : decode cX6_play 0 = .ok (.aload_n 1, 1) := by decide +kernel
theorem dX6_play_1 : decode cX6_play 1 = .ok (.getfield 16, 3) := by decide +kernel
theorem dX6_play_4 : decode cX6_play 4 = .ok (.iconst 0, 1) := by decide +kernel
theorem dX6_play_5 : decode cX6_play 5 = .ok (.aload_n 0, 1) := by decide +kernel
theorem dX6_play_6 : decode cX6_play 6 = .ok (.getfield 11, 3) := by decide +kernel
theorem dX6_play_9 : decode cX6_play 9 = .ok (.iconst 0, 1) := by decide +kernel
theorem dX6_play_10 : decode cX6_play 10 = .ok (.aaload, 1) := by decide +kernel
theorem dX6_play_11 : decode cX6_play 11 = .ok (.iconst 0, 1) := by decide +kernel
theorem dX6_play_12 : decode cX6_play 12 = .ok (.bipush 8, 2) := by decide +kernel
theorem dX6_play_14 : decode cX6_play 14 = .ok (.invokestatic 22, 3) := by decide +kernel
theorem dX6_play_17 : decode cX6_play 17 = .ok (.aload_n 0, 1) := by decide +kernel
theorem dX6_play_18 : decode cX6_play 18 = .ok (.aload_n 1, 1) := by decide +kernel
theorem dX6_play_19 : decode cX6_play 19 = .ok (.iload_n 2, 1) := by decide +kernel
theorem dX6_play_20 : decode cX6_play 20 = .ok (.iload_n 3, 1) := by decide +kernel
theorem dX6_play_21 : decode cX6_play 21 = .ok (.iconst 0, 1) := by decide +kernel
theorem dX6_play_22 : decode cX6_play 22 = .ok (.invokevirtual 28, 3) := by decide +kernel
theorem dX6_play_25 : decode cX6_play 25 = .ok (.ireturn, 1) := by decide +kernel
theorem dX6_mostByTalk_0 : decode cX6_mostByTalk 0 = .ok (.iload_n 3, 1) := by decide +kernel
theorem dX6_mostByTalk_1 : decode cX6_mostByTalk 1 = .ok (.ifCond .le 15, 3) := by decide +kernel
theorem dX6_mostByTalk_4 : decode cX6_mostByTalk 4 = .ok (.iload 4, 2) := by decide +kernel
theorem dX6_mostByTalk_6 : decode cX6_mostByTalk 6 = .ok (.iconst 1, 1) := by decide +kernel
theorem dX6_mostByTalk_7 : decode cX6_mostByTalk 7 = .ok (.iadd, 1) := by decide +kernel
theorem dX6_mostByTalk_8 : decode cX6_mostByTalk 8 = .ok (.aload_n 0, 1) := by decide +kernel
theorem dX6_mostByTalk_9 : decode cX6_mostByTalk 9 = .ok (.getfield 11, 3) := by decide +kernel
theorem dX6_mostByTalk_12 : decode cX6_mostByTalk 12 = .ok (.arraylength, 1) := by decide +kernel
theorem dX6_mostByTalk_13 : decode cX6_mostByTalk 13 = .ok (.if_icmp .lt 15, 3) := by decide +kernel
theorem dX6_mostByTalk_16 : decode cX6_mostByTalk 16 = .ok (.aload_n 1, 1) := by decide +kernel
theorem dX6_mostByTalk_17 : decode cX6_mostByTalk 17 = .ok (.aload_n 0, 1) := by decide +kernel
theorem dX6_mostByTalk_18 : decode cX6_mostByTalk 18 = .ok (.getfield 11, 3) := by decide +kernel
theorem dX6_mostByTalk_21 : decode cX6_mostByTalk 21 = .ok (.iload 4, 2) := by decide +kernel
theorem dX6_mostByTalk_23 : decode cX6_mostByTalk 23 = .ok (.aaload, 1) := by decide +kernel
theorem dX6_mostByTalk_24 : decode cX6_mostByTalk 24 = .ok (.invokevirtual 32, 3) := by decide +kernel
theorem dX6_mostByTalk_27 : decode cX6_mostByTalk 27 = .ok (.ireturn, 1) := by decide +kernel
theorem dX6_mostByTalk_28 : decode cX6_mostByTalk 28 = .ok (.iconst 0, 1) := by decide +kernel
theorem dX6_mostByTalk_29 : decode cX6_mostByTalk 29 = .ok (.istore 5, 2) := by decide +kernel
theorem dX6_mostByTalk_31 : decode cX6_mostByTalk 31 = .ok (.iconst (-1), 1) := by decide +kernel
theorem dX6_mostByTalk_32 : decode cX6_mostByTalk 32 = .ok (.istore 6, 2) := by decide +kernel
theorem dX6_mostByTalk_34 : decode cX6_mostByTalk 34 = .ok (.iload 6, 2) := by decide +kernel
theorem dX6_mostByTalk_36 : decode cX6_mostByTalk 36 = .ok (.aload_n 1, 1) := by decide +kernel
theorem dX6_mostByTalk_37 : decode cX6_mostByTalk 37 = .ok (.getfield 36, 3) := by decide +kernel
theorem dX6_mostByTalk_40 : decode cX6_mostByTalk 40 = .ok (.if_icmp .ge 54, 3) := by decide +kernel
theorem dX6_mostByTalk_43 : decode cX6_mostByTalk 43 = .ok (.aload_n 0, 1) := by decide +kernel
theorem dX6_mostByTalk_44 : decode cX6_mostByTalk 44 = .ok (.iload 4, 2) := by decide +kernel
theorem dX6_mostByTalk_46 : decode cX6_mostByTalk 46 = .ok (.invokevirtual 40, 3) := by decide +kernel
theorem dX6_mostByTalk_49 : decode cX6_mostByTalk 49 = .ok (.iload 6, 2) := by decide +kernel
theorem dX6_mostByTalk_51 : decode cX6_mostByTalk 51 = .ok (.ifCond .lt 19, 3) := by decide +kernel
theorem dX6_mostByTalk_54 : decode cX6_mostByTalk 54 = .ok (.aload_n 1, 1) := by decide +kernel
theorem dX6_mostByTalk_55 : decode cX6_mostByTalk 55 = .ok (.aload_n 0, 1) := by decide +kernel
theorem dX6_mostByTalk_56 : decode cX6_mostByTalk 56 = .ok (.getfield 11, 3) := by decide +kernel
theorem dX6_mostByTalk_59 : decode cX6_mostByTalk 59 = .ok (.iload 4, 2) := by decide +kernel
theorem dX6_mostByTalk_61 : decode cX6_mostByTalk 61 = .ok (.iconst 1, 1) := by decide +kernel
theorem dX6_mostByTalk_62 : decode cX6_mostByTalk 62 = .ok (.iadd, 1) := by decide +kernel
theorem dX6_mostByTalk_63 : decode cX6_mostByTalk 63 = .ok (.aaload, 1) := by decide +kernel
theorem dX6_mostByTalk_64 : decode cX6_mostByTalk 64 = .ok (.iload 6, 2) := by decide +kernel
theorem dX6_mostByTalk_66 : decode cX6_mostByTalk 66 = .ok (.iload_n 2, 1) := by decide +kernel
theorem dX6_mostByTalk_67 : decode cX6_mostByTalk 67 = .ok (.invokevirtual 44, 3) := by decide +kernel
theorem dX6_mostByTalk_70 : decode cX6_mostByTalk 70 = .ok (.iload 5, 2) := by decide +kernel
theorem dX6_mostByTalk_72 : decode cX6_mostByTalk 72 = .ok (.aload_n 0, 1) := by decide +kernel
theorem dX6_mostByTalk_73 : decode cX6_mostByTalk 73 = .ok (.aload_n 1, 1) := by decide +kernel
theorem dX6_mostByTalk_74 : decode cX6_mostByTalk 74 = .ok (.iload_n 2, 1) := by decide +kernel
theorem dX6_mostByTalk_75 : decode cX6_mostByTalk 75 = .ok (.iload_n 3, 1) := by decide +kernel
theorem dX6_mostByTalk_76 : decode cX6_mostByTalk 76 = .ok (.iload 4, 2) := by decide +kernel
theorem dX6_mostByTalk_78 : decode cX6_mostByTalk 78 = .ok (.iconst 1, 1) := by decide +kernel
theorem dX6_mostByTalk_79 : decode cX6_mostByTalk 79 = .ok (.iadd, 1) := by decide +kernel
theorem dX6_mostByTalk_80 : decode cX6_mostByTalk 80 = .ok (.invokevirtual 48, 3) := by decide +kernel
theorem dX6_mostByTalk_83 : decode cX6_mostByTalk 83 = .ok (.invokestatic 51, 3) := by decide +kernel
theorem dX6_mostByTalk_86 : decode cX6_mostByTalk 86 = .ok (.istore 5, 2) := by decide +kernel
theorem dX6_mostByTalk_88 : decode cX6_mostByTalk 88 = .ok (.iinc 6 1, 3) := by decide +kernel
theorem dX6_mostByTalk_91 : decode cX6_mostByTalk 91 = .ok (.goto (-57), 3) := by decide +kernel
theorem dX6_mostByTalk_94 : decode cX6_mostByTalk 94 = .ok (.iload 5, 2) := by decide +kernel
theorem dX6_mostByTalk_96 : decode cX6_mostByTalk 96 = .ok (.ireturn, 1) := by decide +kernel
theorem dX6_leastByWindow_0 : decode cX6_leastByWindow 0 = .ok (.iload_n 3, 1) := by decide +kernel
theorem dX6_leastByWindow_1 : decode cX6_leastByWindow 1 = .ok (.iconst 1, 1) := by decide +kernel
theorem dX6_leastByWindow_2 : decode cX6_leastByWindow 2 = .ok (.if_icmp .le 15, 3) := by decide +kernel
theorem dX6_leastByWindow_5 : decode cX6_leastByWindow 5 = .ok (.iload 4, 2) := by decide +kernel
theorem dX6_leastByWindow_7 : decode cX6_leastByWindow 7 = .ok (.iconst 1, 1) := by decide +kernel
theorem dX6_leastByWindow_8 : decode cX6_leastByWindow 8 = .ok (.iadd, 1) := by decide +kernel
theorem dX6_leastByWindow_9 : decode cX6_leastByWindow 9 = .ok (.aload_n 0, 1) := by decide +kernel
theorem dX6_leastByWindow_10 : decode cX6_leastByWindow 10 = .ok (.getfield 11, 3) := by decide +kernel
theorem dX6_leastByWindow_13 : decode cX6_leastByWindow 13 = .ok (.arraylength, 1) := by decide +kernel
theorem dX6_leastByWindow_14 : decode cX6_leastByWindow 14 = .ok (.if_icmp .lt 27, 3) := by decide +kernel
theorem dX6_leastByWindow_17 : decode cX6_leastByWindow 17 = .ok (.aload_n 1, 1) := by decide +kernel
theorem dX6_leastByWindow_18 : decode cX6_leastByWindow 18 = .ok (.aload_n 0, 1) := by decide +kernel
theorem dX6_leastByWindow_19 : decode cX6_leastByWindow 19 = .ok (.getfield 11, 3) := by decide +kernel
theorem dX6_leastByWindow_22 : decode cX6_leastByWindow 22 = .ok (.iload 4, 2) := by decide +kernel
theorem dX6_leastByWindow_24 : decode cX6_leastByWindow 24 = .ok (.aaload, 1) := by decide +kernel
theorem dX6_leastByWindow_25 : decode cX6_leastByWindow 25 = .ok (.invokevirtual 32, 3) := by decide +kernel
theorem dX6_leastByWindow_28 : decode cX6_leastByWindow 28 = .ok (.aload_n 1, 1) := by decide +kernel
theorem dX6_leastByWindow_29 : decode cX6_leastByWindow 29 = .ok (.aload_n 0, 1) := by decide +kernel
theorem dX6_leastByWindow_30 : decode cX6_leastByWindow 30 = .ok (.getfield 11, 3) := by decide +kernel
theorem dX6_leastByWindow_33 : decode cX6_leastByWindow 33 = .ok (.iload 4, 2) := by decide +kernel
theorem dX6_leastByWindow_35 : decode cX6_leastByWindow 35 = .ok (.aaload, 1) := by decide +kernel
theorem dX6_leastByWindow_36 : decode cX6_leastByWindow 36 = .ok (.invokevirtual 57, 3) := by decide +kernel
theorem dX6_leastByWindow_39 : decode cX6_leastByWindow 39 = .ok (.isub, 1) := by decide +kernel
theorem dX6_leastByWindow_40 : decode cX6_leastByWindow 40 = .ok (.ireturn, 1) := by decide +kernel
theorem dX6_leastByWindow_41 : decode cX6_leastByWindow 41 = .ok (.sipush 7992, 3) := by decide +kernel
theorem dX6_leastByWindow_44 : decode cX6_leastByWindow 44 = .ok (.istore 5, 2) := by decide +kernel
theorem dX6_leastByWindow_46 : decode cX6_leastByWindow 46 = .ok (.iconst (-1), 1) := by decide +kernel
theorem dX6_leastByWindow_47 : decode cX6_leastByWindow 47 = .ok (.istore 6, 2) := by decide +kernel
theorem dX6_leastByWindow_49 : decode cX6_leastByWindow 49 = .ok (.iload 6, 2) := by decide +kernel
theorem dX6_leastByWindow_51 : decode cX6_leastByWindow 51 = .ok (.aload_n 1, 1) := by decide +kernel
theorem dX6_leastByWindow_52 : decode cX6_leastByWindow 52 = .ok (.getfield 60, 3) := by decide +kernel
theorem dX6_leastByWindow_55 : decode cX6_leastByWindow 55 = .ok (.if_icmp .ge 53, 3) := by decide +kernel
theorem dX6_leastByWindow_58 : decode cX6_leastByWindow 58 = .ok (.aload_n 0, 1) := by decide +kernel
theorem dX6_leastByWindow_59 : decode cX6_leastByWindow 59 = .ok (.iload 4, 2) := by decide +kernel
theorem dX6_leastByWindow_61 : decode cX6_leastByWindow 61 = .ok (.invokevirtual 40, 3) := by decide +kernel
theorem dX6_leastByWindow_64 : decode cX6_leastByWindow 64 = .ok (.iload 6, 2) := by decide +kernel
theorem dX6_leastByWindow_66 : decode cX6_leastByWindow 66 = .ok (.ifCond .lt 16, 3) := by decide +kernel
theorem dX6_leastByWindow_69 : decode cX6_leastByWindow 69 = .ok (.aload_n 0, 1) := by decide +kernel
theorem dX6_leastByWindow_70 : decode cX6_leastByWindow 70 = .ok (.getfield 11, 3) := by decide +kernel
theorem dX6_leastByWindow_73 : decode cX6_leastByWindow 73 = .ok (.iload 4, 2) := by decide +kernel
theorem dX6_leastByWindow_75 : decode cX6_leastByWindow 75 = .ok (.iconst 1, 1) := by decide +kernel
theorem dX6_leastByWindow_76 : decode cX6_leastByWindow 76 = .ok (.iadd, 1) := by decide +kernel
theorem dX6_leastByWindow_77 : decode cX6_leastByWindow 77 = .ok (.aaload, 1) := by decide +kernel
theorem dX6_leastByWindow_78 : decode cX6_leastByWindow 78 = .ok (.iload 6, 2) := by decide +kernel
theorem dX6_leastByWindow_80 : decode cX6_leastByWindow 80 = .ok (.iconst 0, 1) := by decide +kernel
theorem dX6_leastByWindow_81 : decode cX6_leastByWindow 81 = .ok (.iastore, 1) := by decide +kernel
theorem dX6_leastByWindow_82 : decode cX6_leastByWindow 82 = .ok (.iload 5, 2) := by decide +kernel
theorem dX6_leastByWindow_84 : decode cX6_leastByWindow 84 = .ok (.aload_n 0, 1) := by decide +kernel
theorem dX6_leastByWindow_85 : decode cX6_leastByWindow 85 = .ok (.aload_n 1, 1) := by decide +kernel
theorem dX6_leastByWindow_86 : decode cX6_leastByWindow 86 = .ok (.iload_n 2, 1) := by decide +kernel
theorem dX6_leastByWindow_87 : decode cX6_leastByWindow 87 = .ok (.iload_n 3, 1) := by decide +kernel
theorem dX6_leastByWindow_88 : decode cX6_leastByWindow 88 = .ok (.iconst 1, 1) := by decide +kernel
theorem dX6_leastByWindow_89 : decode cX6_leastByWindow 89 = .ok (.isub, 1) := by decide +kernel
theorem dX6_leastByWindow_90 : decode cX6_leastByWindow 90 = .ok (.iload 4, 2) := by decide +kernel
theorem dX6_leastByWindow_92 : decode cX6_leastByWindow 92 = .ok (.iconst 1, 1) := by decide +kernel
theorem dX6_leastByWindow_93 : decode cX6_leastByWindow 93 = .ok (.iadd, 1) := by decide +kernel
theorem dX6_leastByWindow_94 : decode cX6_leastByWindow 94 = .ok (.invokevirtual 28, 3) := by decide +kernel
theorem dX6_leastByWindow_97 : decode cX6_leastByWindow 97 = .ok (.invokestatic 63, 3) := by decide +kernel
theorem dX6_leastByWindow_100 : decode cX6_leastByWindow 100 = .ok (.istore 5, 2) := by decide +kernel
theorem dX6_leastByWindow_102 : decode cX6_leastByWindow 102 = .ok (.iinc 6 1, 3) := by decide +kernel
theorem dX6_leastByWindow_105 : decode cX6_leastByWindow 105 = .ok (.goto (-56), 3) := by decide +kernel
theorem dX6_leastByWindow_108 : decode cX6_leastByWindow 108 = .ok (.iload 5, 2) := by decide +kernel
theorem dX6_leastByWindow_110 : decode cX6_leastByWindow 110 = .ok (.ireturn, 1) := by decide +kernel
theorem dX6_takeAir_0 : decode cX6_takeAir 0 = .ok (.aload_n 0, 1) := by decide +kernel
theorem dX6_takeAir_1 : decode cX6_takeAir 1 = .ok (.getfield 11, 3) := by decide +kernel
theorem dX6_takeAir_4 : decode cX6_takeAir 4 = .ok (.iload_n 1, 1) := by decide +kernel
theorem dX6_takeAir_5 : decode cX6_takeAir 5 = .ok (.aaload, 1) := by decide +kernel
theorem dX6_takeAir_6 : decode cX6_takeAir 6 = .ok (.iconst 0, 1) := by decide +kernel
theorem dX6_takeAir_7 : decode cX6_takeAir 7 = .ok (.aload_n 0, 1) := by decide +kernel
theorem dX6_takeAir_8 : decode cX6_takeAir 8 = .ok (.getfield 11, 3) := by decide +kernel
theorem dX6_takeAir_11 : decode cX6_takeAir 11 = .ok (.iload_n 1, 1) := by decide +kernel
theorem dX6_takeAir_12 : decode cX6_takeAir 12 = .ok (.iconst 1, 1) := by decide +kernel
theorem dX6_takeAir_13 : decode cX6_takeAir 13 = .ok (.iadd, 1) := by decide +kernel
theorem dX6_takeAir_14 : decode cX6_takeAir 14 = .ok (.aaload, 1) := by decide +kernel
theorem dX6_takeAir_15 : decode cX6_takeAir 15 = .ok (.iconst 0, 1) := by decide +kernel
theorem dX6_takeAir_16 : decode cX6_takeAir 16 = .ok (.bipush 8, 2) := by decide +kernel
theorem dX6_takeAir_18 : decode cX6_takeAir 18 = .ok (.invokestatic 22, 3) := by decide +kernel
theorem dX6_takeAir_21 : decode cX6_takeAir 21 = .ok (.return_, 1) := by decide +kernel
theorem dJ6_bitCount_0f7a4_0 : decode cJ6_bitCount_0f7a4 0 = .ok (.iload_n 0, 1) := by decide +kernel
theorem dJ6_bitCount_0f7a4_1 : decode cJ6_bitCount_0f7a4 1 = .ok (.iload_n 0, 1) := by decide +kernel
theorem dJ6_bitCount_0f7a4_2 : decode cJ6_bitCount_0f7a4 2 = .ok (.iconst 1, 1) := by decide +kernel
theorem dJ6_bitCount_0f7a4_3 : decode cJ6_bitCount_0f7a4 3 = .ok (.iushr, 1) := by decide +kernel
theorem dJ6_bitCount_0f7a4_4 : decode cJ6_bitCount_0f7a4 4 = .ok (.ldc_w 265, 3) := by decide +kernel
theorem dJ6_bitCount_0f7a4_7 : decode cJ6_bitCount_0f7a4 7 = .ok (.iand, 1) := by decide +kernel
theorem dJ6_bitCount_0f7a4_8 : decode cJ6_bitCount_0f7a4 8 = .ok (.isub, 1) := by decide +kernel
theorem dJ6_bitCount_0f7a4_9 : decode cJ6_bitCount_0f7a4 9 = .ok (.istore_n 0, 1) := by decide +kernel
theorem dJ6_bitCount_0f7a4_10 : decode cJ6_bitCount_0f7a4 10 = .ok (.iload_n 0, 1) := by decide +kernel
theorem dJ6_bitCount_0f7a4_11 : decode cJ6_bitCount_0f7a4 11 = .ok (.ldc_w 266, 3) := by decide +kernel
theorem dJ6_bitCount_0f7a4_14 : decode cJ6_bitCount_0f7a4 14 = .ok (.iand, 1) := by decide +kernel
theorem dJ6_bitCount_0f7a4_15 : decode cJ6_bitCount_0f7a4 15 = .ok (.iload_n 0, 1) := by decide +kernel
theorem dJ6_bitCount_0f7a4_16 : decode cJ6_bitCount_0f7a4 16 = .ok (.iconst 2, 1) := by decide +kernel
theorem dJ6_bitCount_0f7a4_17 : decode cJ6_bitCount_0f7a4 17 = .ok (.iushr, 1) := by decide +kernel
theorem dJ6_bitCount_0f7a4_18 : decode cJ6_bitCount_0f7a4 18 = .ok (.ldc_w 266, 3) := by decide +kernel
theorem dJ6_bitCount_0f7a4_21 : decode cJ6_bitCount_0f7a4 21 = .ok (.iand, 1) := by decide +kernel
theorem dJ6_bitCount_0f7a4_22 : decode cJ6_bitCount_0f7a4 22 = .ok (.iadd, 1) := by decide +kernel
theorem dJ6_bitCount_0f7a4_23 : decode cJ6_bitCount_0f7a4 23 = .ok (.istore_n 0, 1) := by decide +kernel
theorem dJ6_bitCount_0f7a4_24 : decode cJ6_bitCount_0f7a4 24 = .ok (.iload_n 0, 1) := by decide +kernel
theorem dJ6_bitCount_0f7a4_25 : decode cJ6_bitCount_0f7a4 25 = .ok (.iload_n 0, 1) := by decide +kernel
theorem dJ6_bitCount_0f7a4_26 : decode cJ6_bitCount_0f7a4 26 = .ok (.iconst 4, 1) := by decide +kernel
theorem dJ6_bitCount_0f7a4_27 : decode cJ6_bitCount_0f7a4 27 = .ok (.iushr, 1) := by decide +kernel
theorem dJ6_bitCount_0f7a4_28 : decode cJ6_bitCount_0f7a4 28 = .ok (.iadd, 1) := by decide +kernel
theorem dJ6_bitCount_0f7a4_29 : decode cJ6_bitCount_0f7a4 29 = .ok (.ldc_w 267, 3) := by decide +kernel
theorem dJ6_bitCount_0f7a4_32 : decode cJ6_bitCount_0f7a4 32 = .ok (.iand, 1) := by decide +kernel
theorem dJ6_bitCount_0f7a4_33 : decode cJ6_bitCount_0f7a4 33 = .ok (.istore_n 0, 1) := by decide +kernel
theorem dJ6_bitCount_0f7a4_34 : decode cJ6_bitCount_0f7a4 34 = .ok (.iload_n 0, 1) := by decide +kernel
theorem dJ6_bitCount_0f7a4_35 : decode cJ6_bitCount_0f7a4 35 = .ok (.iload_n 0, 1) := by decide +kernel
theorem dJ6_bitCount_0f7a4_36 : decode cJ6_bitCount_0f7a4 36 = .ok (.bipush 8, 2) := by decide +kernel
theorem dJ6_bitCount_0f7a4_38 : decode cJ6_bitCount_0f7a4 38 = .ok (.iushr, 1) := by decide +kernel
theorem dJ6_bitCount_0f7a4_39 : decode cJ6_bitCount_0f7a4 39 = .ok (.iadd, 1) := by decide +kernel
theorem dJ6_bitCount_0f7a4_40 : decode cJ6_bitCount_0f7a4 40 = .ok (.istore_n 0, 1) := by decide +kernel
theorem dJ6_bitCount_0f7a4_41 : decode cJ6_bitCount_0f7a4 41 = .ok (.iload_n 0, 1) := by decide +kernel
theorem dJ6_bitCount_0f7a4_42 : decode cJ6_bitCount_0f7a4 42 = .ok (.iload_n 0, 1) := by decide +kernel
theorem dJ6_bitCount_0f7a4_43 : decode cJ6_bitCount_0f7a4 43 = .ok (.bipush 16, 2) := by decide +kernel
theorem dJ6_bitCount_0f7a4_45 : decode cJ6_bitCount_0f7a4 45 = .ok (.iushr, 1) := by decide +kernel
theorem dJ6_bitCount_0f7a4_46 : decode cJ6_bitCount_0f7a4 46 = .ok (.iadd, 1) := by decide +kernel
theorem dJ6_bitCount_0f7a4_47 : decode cJ6_bitCount_0f7a4 47 = .ok (.istore_n 0, 1) := by decide +kernel
theorem dJ6_bitCount_0f7a4_48 : decode cJ6_bitCount_0f7a4 48 = .ok (.iload_n 0, 1) := by decide +kernel
theorem dJ6_bitCount_0f7a4_49 : decode cJ6_bitCount_0f7a4 49 = .ok (.bipush 63, 2) := by decide +kernel
theorem dJ6_bitCount_0f7a4_51 : decode cJ6_bitCount_0f7a4 51 = .ok (.iand, 1) := by decide +kernel
theorem dJ6_bitCount_0f7a4_52 : decode cJ6_bitCount_0f7a4 52 = .ok (.ireturn, 1) := by decide +kernel
theorem dJ9_max_7cf53_0 : decode cJ9_max_7cf53 0 = .ok (.iload_n 0, 1) := by decide +kernel
theorem dJ9_max_7cf53_1 : decode cJ9_max_7cf53 1 = .ok (.iload_n 1, 1) := by decide +kernel
theorem dJ9_max_7cf53_2 : decode cJ9_max_7cf53 2 = .ok (.if_icmp .lt 7, 3) := by decide +kernel
theorem dJ9_max_7cf53_5 : decode cJ9_max_7cf53 5 = .ok (.iload_n 0, 1) := by decide +kernel
theorem dJ9_max_7cf53_6 : decode cJ9_max_7cf53 6 = .ok (.goto 4, 3) := by decide +kernel
theorem dJ9_max_7cf53_9 : decode cJ9_max_7cf53 9 = .ok (.iload_n 1, 1) := by decide +kernel
theorem dJ9_max_7cf53_10 : decode cJ9_max_7cf53 10 = .ok (.ireturn, 1) := by decide +kernel
theorem dJ9_min_7cf53_0 : decode cJ9_min_7cf53 0 = .ok (.iload_n 0, 1) := by decide +kernel
theorem dJ9_min_7cf53_1 : decode cJ9_min_7cf53 1 = .ok (.iload_n 1, 1) := by decide +kernel
theorem dJ9_min_7cf53_2 : decode cJ9_min_7cf53 2 = .ok (.if_icmp .gt 7, 3) := by decide +kernel
theorem dJ9_min_7cf53_5 : decode cJ9_min_7cf53 5 = .ok (.iload_n 0, 1) := by decide +kernel
theorem dJ9_min_7cf53_6 : decode cJ9_min_7cf53 6 = .ok (.goto 4, 3) := by decide +kernel
theorem dJ9_min_7cf53_9 : decode cJ9_min_7cf53 9 = .ok (.iload_n 1, 1) := by decide +kernel
theorem dJ9_min_7cf53_10 : decode cJ9_min_7cf53 10 = .ok (.ireturn, 1) := by decide +kernel
