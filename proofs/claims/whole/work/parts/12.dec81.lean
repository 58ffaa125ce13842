theorem dX8_mark_231 : decode cX8_mark 231 = .ok (.aload_n 0, 1) := by decide +kernel
theorem dX8_mark_232 : decode cX8_mark 232 = .ok (.getfield 32, 3) := by decide +kernel
theorem dX8_mark_235 : decode cX8_mark 235 = .ok (.iload_n 1, 1) := by decide +kernel
theorem dX8_mark_236 : decode cX8_mark 236 = .ok (.iaload, 1) := by decide +kernel
theorem dX8_mark_237 : decode cX8_mark 237 = .ok (.iload 4, 2) := by decide +kernel
theorem dX8_mark_239 : decode cX8_mark 239 = .ok (.invokestatic 140, 3) := by decide +kernel
theorem dX8_mark_242 : decode cX8_mark 242 = .ok (.iload_n 2, 1) := by decide +kernel
theorem dX8_mark_243 : decode cX8_mark 243 = .ok (.iconst 4, 1) := by decide +kernel
theorem dX8_mark_244 : decode cX8_mark 244 = .ok (.if_icmp .ne 7, 3) := by decide +kernel
theorem dX8_mark_247 : decode cX8_mark 247 = .ok (.iconst 0, 1) := by decide +kernel
theorem dX8_mark_248 : decode cX8_mark 248 = .ok (.goto 14, 3) := by decide +kernel
theorem dX8_mark_251 : decode cX8_mark 251 = .ok (.aload_n 0, 1) := by decide +kernel
theorem dX8_mark_252 : decode cX8_mark 252 = .ok (.getfield 32, 3) := by decide +kernel
theorem dX8_mark_255 : decode cX8_mark 255 = .ok (.iload_n 1, 1) := by decide +kernel
theorem dX8_mark_256 : decode cX8_mark 256 = .ok (.iaload, 1) := by decide +kernel
theorem dX8_mark_257 : decode cX8_mark 257 = .ok (.bipush 7, 2) := by decide +kernel
theorem dX8_mark_259 : decode cX8_mark 259 = .ok (.invokestatic 140, 3) := by decide +kernel
theorem dX8_mark_262 : decode cX8_mark 262 = .ok (.if_icmp .ne 7, 3) := by decide +kernel
theorem dX8_mark_265 : decode cX8_mark 265 = .ok (.iconst 1, 1) := by decide +kernel
theorem dX8_mark_266 : decode cX8_mark 266 = .ok (.goto 4, 3) := by decide +kernel
theorem dX8_mark_269 : decode cX8_mark 269 = .ok (.iconst 0, 1) := by decide +kernel
theorem dX8_mark_270 : decode cX8_mark 270 = .ok (.iadd, 1) := by decide +kernel
theorem dX8_mark_271 : decode cX8_mark 271 = .ok (.istore_n 3, 1) := by decide +kernel
theorem dX8_mark_272 : decode cX8_mark 272 = .ok (.iinc 4 1, 3) := by decide +kernel
theorem dX8_mark_275 : decode cX8_mark 275 = .ok (.goto (-52), 3) := by decide +kernel
theorem dX8_mark_278 : decode cX8_mark 278 = .ok (.iload_n 3, 1) := by decide +kernel
theorem dX8_mark_279 : decode cX8_mark 279 = .ok (.ireturn, 1) := by decide +kernel
theorem dX8_smoke_0 : decode cX8_smoke 0 = .ok (.aload_n 0, 1) := by decide +kernel
theorem dX8_smoke_1 : decode cX8_smoke 1 = .ok (.iload_n 1, 1) := by decide +kernel
theorem dX8_smoke_2 : decode cX8_smoke 2 = .ok (.invokevirtual 156, 3) := by decide +kernel
theorem dX8_smoke_5 : decode cX8_smoke 5 = .ok (.ifCond .eq 12, 3) := by decide +kernel
theorem dX8_smoke_8 : decode cX8_smoke 8 = .ok (.aload_n 0, 1) := by decide +kernel
theorem dX8_smoke_9 : decode cX8_smoke 9 = .ok (.getfield 38, 3) := by decide +kernel
theorem dX8_smoke_12 : decode cX8_smoke 12 = .ok (.iload_n 1, 1) := by decide +kernel
theorem dX8_smoke_13 : decode cX8_smoke 13 = .ok (.iaload, 1) := by decide +kernel
theorem dX8_smoke_14 : decode cX8_smoke 14 = .ok (.goto 4, 3) := by decide +kernel
theorem dX8_smoke_17 : decode cX8_smoke 17 = .ok (.iconst (-1), 1) := by decide +kernel
theorem dX8_smoke_18 : decode cX8_smoke 18 = .ok (.ireturn, 1) := by decide +kernel
theorem dX8_allIn_0 : decode cX8_allIn 0 = .ok (.iconst 0, 1) := by decide +kernel
theorem dX8_allIn_1 : decode cX8_allIn 1 = .ok (.istore_n 2, 1) := by decide +kernel
theorem dX8_allIn_2 : decode cX8_allIn 2 = .ok (.iconst 0, 1) := by decide +kernel
theorem dX8_allIn_3 : decode cX8_allIn 3 = .ok (.istore_n 3, 1) := by decide +kernel
theorem dX8_allIn_4 : decode cX8_allIn 4 = .ok (.iload_n 3, 1) := by decide +kernel
theorem dX8_allIn_5 : decode cX8_allIn 5 = .ok (.aload_n 0, 1) := by decide +kernel
theorem dX8_allIn_6 : decode cX8_allIn 6 = .ok (.getfield 70, 3) := by decide +kernel
theorem dX8_allIn_9 : decode cX8_allIn 9 = .ok (.if_icmp .ge 15, 3) := by decide +kernel
theorem dX8_allIn_12 : decode cX8_allIn 12 = .ok (.iload_n 2, 1) := by decide +kernel
theorem dX8_allIn_13 : decode cX8_allIn 13 = .ok (.aload_n 1, 1) := by decide +kernel
theorem dX8_allIn_14 : decode cX8_allIn 14 = .ok (.iload_n 3, 1) := by decide +kernel
theorem dX8_allIn_15 : decode cX8_allIn 15 = .ok (.iaload, 1) := by decide +kernel
theorem dX8_allIn_16 : decode cX8_allIn 16 = .ok (.iadd, 1) := by decide +kernel
theorem dX8_allIn_17 : decode cX8_allIn 17 = .ok (.istore_n 2, 1) := by decide +kernel
theorem dX8_allIn_18 : decode cX8_allIn 18 = .ok (.iinc 3 1, 3) := by decide +kernel
theorem dX8_allIn_21 : decode cX8_allIn 21 = .ok (.goto (-17), 3) := by decide +kernel
theorem dX8_allIn_24 : decode cX8_allIn 24 = .ok (.iload_n 2, 1) := by decide +kernel
theorem dX8_allIn_25 : decode cX8_allIn 25 = .ok (.ireturn, 1) := by decide +kernel
theorem dX8_note_0 : decode cX8_note 0 = .ok (.aload_n 0, 1) := by decide +kernel
theorem dX8_note_1 : decode cX8_note 1 = .ok (.getfield 38, 3) := by decide +kernel
theorem dX8_note_4 : decode cX8_note 4 = .ok (.iconst 0, 1) := by decide +kernel
theorem dX8_note_5 : decode cX8_note 5 = .ok (.aload_n 0, 1) := by decide +kernel
theorem dX8_note_6 : decode cX8_note 6 = .ok (.getfield 44, 3) := by decide +kernel
theorem dX8_note_9 : decode cX8_note 9 = .ok (.bipush 17, 2) := by decide +kernel
theorem dX8_note_11 : decode cX8_note 11 = .ok (.aload_n 0, 1) := by decide +kernel
theorem dX8_note_12 : decode cX8_note 12 = .ok (.getfield 130, 3) := by decide +kernel
theorem dX8_note_15 : decode cX8_note 15 = .ok (.imul, 1) := by decide +kernel
theorem dX8_note_16 : decode cX8_note 16 = .ok (.bipush 17, 2) := by decide +kernel
theorem dX8_note_18 : decode cX8_note 18 = .ok (.invokestatic 159, 3) := by decide +kernel
theorem dX8_note_21 : decode cX8_note 21 = .ok (.aload_n 0, 1) := by decide +kernel
theorem dX8_note_22 : decode cX8_note 22 = .ok (.dup, 1) := by decide +kernel
theorem dX8_note_23 : decode cX8_note 23 = .ok (.getfield 130, 3) := by decide +kernel
theorem dX8_note_26 : decode cX8_note 26 = .ok (.iconst 1, 1) := by decide +kernel
theorem dX8_note_27 : decode cX8_note 27 = .ok (.iadd, 1) := by decide +kernel
theorem dX8_note_28 : decode cX8_note 28 = .ok (.putfield 130, 3) := by decide +kernel
theorem dX8_note_31 : decode cX8_note 31 = .ok (.return_, 1) := by decide +kernel
theorem dX8_comes_0 : decode cX8_comes 0 = .ok (.aload_n 0, 1) := by decide +kernel
theorem dX8_comes_1 : decode cX8_comes 1 = .ok (.iload_n 1, 1) := by decide +kernel
theorem dX8_comes_2 : decode cX8_comes 2 = .ok (.aload_n 0, 1) := by decide +kernel
theorem dX8_comes_3 : decode cX8_comes 3 = .ok (.iload_n 1, 1) := by decide +kernel
theorem dX8_comes_4 : decode cX8_comes 4 = .ok (.iaload, 1) := by decide +kernel
theorem dX8_comes_5 : decode cX8_comes 5 = .ok (.iload_n 2, 1) := by decide +kernel
theorem dX8_comes_6 : decode cX8_comes 6 = .ok (.iadd, 1) := by decide +kernel
theorem dX8_comes_7 : decode cX8_comes 7 = .ok (.sipush 999, 3) := by decide +kernel
theorem dX8_comes_10 : decode cX8_comes 10 = .ok (.if_icmp .le 9, 3) := by decide +kernel
theorem dX8_comes_13 : decode cX8_comes 13 = .ok (.sipush 999, 3) := by decide +kernel
theorem dX8_comes_16 : decode cX8_comes 16 = .ok (.goto 8, 3) := by decide +kernel
theorem dX8_comes_19 : decode cX8_comes 19 = .ok (.aload_n 0, 1) := by decide +kernel
theorem dX8_comes_20 : decode cX8_comes 20 = .ok (.iload_n 1, 1) := by decide +kernel
theorem dX8_comes_21 : decode cX8_comes 21 = .ok (.iaload, 1) := by decide +kernel
theorem dX8_comes_22 : decode cX8_comes 22 = .ok (.iload_n 2, 1) := by decide +kernel
theorem dX8_comes_23 : decode cX8_comes 23 = .ok (.iadd, 1) := by decide +kernel
theorem dX8_comes_24 : decode cX8_comes 24 = .ok (.iastore, 1) := by decide +kernel
theorem dX8_comes_25 : decode cX8_comes 25 = .ok (.return_, 1) := by decide +kernel
theorem dX8_talkIn_0 : decode cX8_talkIn 0 = .ok (.aload_n 0, 1) := by decide +kernel
theorem dX8_talkIn_1 : decode cX8_talkIn 1 = .ok (.iload_n 2, 1) := by decide +kernel
theorem dX8_talkIn_2 : decode cX8_talkIn 2 = .ok (.iload_n 3, 1) := by decide +kernel
theorem dX8_talkIn_3 : decode cX8_talkIn 3 = .ok (.invokevirtual 153, 3) := by decide +kernel
theorem dX8_talkIn_6 : decode cX8_talkIn 6 = .ok (.istore 4, 2) := by decide +kernel
theorem dX8_talkIn_8 : decode cX8_talkIn 8 = .ok (.aload_n 0, 1) := by decide +kernel
theorem dX8_talkIn_9 : decode cX8_talkIn 9 = .ok (.getfield 35, 3) := by decide +kernel
theorem dX8_talkIn_12 : decode cX8_talkIn 12 = .ok (.iload_n 2, 1) := by decide +kernel
theorem dX8_talkIn_13 : decode cX8_talkIn 13 = .ok (.iaload, 1) := by decide +kernel
theorem dX8_talkIn_14 : decode cX8_talkIn 14 = .ok (.istore 5, 2) := by decide +kernel
theorem dX8_talkIn_16 : decode cX8_talkIn 16 = .ok (.aload_n 1, 1) := by decide +kernel
theorem dX8_talkIn_17 : decode cX8_talkIn 17 = .ok (.bipush 10, 2) := by decide +kernel
theorem dX8_talkIn_19 : decode cX8_talkIn 19 = .ok (.dup2, 1) := by decide +kernel
theorem dX8_talkIn_20 : decode cX8_talkIn 20 = .ok (.iaload, 1) := by decide +kernel
theorem dX8_talkIn_21 : decode cX8_talkIn 21 = .ok (.iload_n 3, 1) := by decide +kernel
theorem dX8_talkIn_22 : decode cX8_talkIn 22 = .ok (.iload 4, 2) := by decide +kernel
theorem dX8_talkIn_24 : decode cX8_talkIn 24 = .ok (.isub, 1) := by decide +kernel
theorem dX8_talkIn_25 : decode cX8_talkIn 25 = .ok (.iadd, 1) := by decide +kernel
theorem dX8_talkIn_26 : decode cX8_talkIn 26 = .ok (.iastore, 1) := by decide +kernel
theorem dX8_talkIn_27 : decode cX8_talkIn 27 = .ok (.aload_n 1, 1) := by decide +kernel
theorem dX8_talkIn_28 : decode cX8_talkIn 28 = .ok (.bipush 11, 2) := by decide +kernel
theorem dX8_talkIn_30 : decode cX8_talkIn 30 = .ok (.iload_n 2, 1) := by decide +kernel
theorem dX8_talkIn_31 : decode cX8_talkIn 31 = .ok (.iadd, 1) := by decide +kernel
theorem dX8_talkIn_32 : decode cX8_talkIn 32 = .ok (.dup2, 1) := by decide +kernel
theorem dX8_talkIn_33 : decode cX8_talkIn 33 = .ok (.iaload, 1) := by decide +kernel
theorem dX8_talkIn_34 : decode cX8_talkIn 34 = .ok (.iconst 1, 1) := by decide +kernel
theorem dX8_talkIn_35 : decode cX8_talkIn 35 = .ok (.iadd, 1) := by decide +kernel
theorem dX8_talkIn_36 : decode cX8_talkIn 36 = .ok (.iastore, 1) := by decide +kernel
theorem dX8_talkIn_37 : decode cX8_talkIn 37 = .ok (.aload_n 0, 1) := by decide +kernel
theorem dX8_talkIn_38 : decode cX8_talkIn 38 = .ok (.getfield 32, 3) := by decide +kernel
theorem dX8_talkIn_41 : decode cX8_talkIn 41 = .ok (.iload_n 2, 1) := by decide +kernel
theorem dX8_talkIn_42 : decode cX8_talkIn 42 = .ok (.iaload, 1) := by decide +kernel
theorem dX8_talkIn_43 : decode cX8_talkIn 43 = .ok (.iconst 1, 1) := by decide +kernel
theorem dX8_talkIn_44 : decode cX8_talkIn 44 = .ok (.invokestatic 143, 3) := by decide +kernel
theorem dX8_talkIn_47 : decode cX8_talkIn 47 = .ok (.ifCond .eq 56, 3) := by decide +kernel
theorem dX8_talkIn_50 : decode cX8_talkIn 50 = .ok (.iload 4, 2) := by decide +kernel
theorem dX8_talkIn_52 : decode cX8_talkIn 52 = .ok (.iload 4, 2) := by decide +kernel
theorem dX8_talkIn_54 : decode cX8_talkIn 54 = .ok (.iconst 2, 1) := by decide +kernel
theorem dX8_talkIn_55 : decode cX8_talkIn 55 = .ok (.idiv, 1) := by decide +kernel
theorem dX8_talkIn_56 : decode cX8_talkIn 56 = .ok (.isub, 1) := by decide +kernel
theorem dX8_talkIn_57 : decode cX8_talkIn 57 = .ok (.istore 6, 2) := by decide +kernel
theorem dX8_talkIn_59 : decode cX8_talkIn 59 = .ok (.aload_n 1, 1) := by decide +kernel
theorem dX8_talkIn_60 : decode cX8_talkIn 60 = .ok (.iload 5, 2) := by decide +kernel
theorem dX8_talkIn_62 : decode cX8_talkIn 62 = .ok (.iload 4, 2) := by decide +kernel
theorem dX8_talkIn_64 : decode cX8_talkIn 64 = .ok (.iconst 2, 1) := by decide +kernel
theorem dX8_talkIn_65 : decode cX8_talkIn 65 = .ok (.idiv, 1) := by decide +kernel
theorem dX8_talkIn_66 : decode cX8_talkIn 66 = .ok (.invokestatic 163, 3) := by decide +kernel
theorem dX8_talkIn_69 : decode cX8_talkIn 69 = .ok (.aload_n 1, 1) := by decide +kernel
theorem dX8_talkIn_70 : decode cX8_talkIn 70 = .ok (.aload_n 0, 1) := by decide +kernel
theorem dX8_talkIn_71 : decode cX8_talkIn 71 = .ok (.iload 5, 2) := by decide +kernel
theorem dX8_talkIn_73 : decode cX8_talkIn 73 = .ok (.invokevirtual 147, 3) := by decide +kernel
theorem dX8_talkIn_76 : decode cX8_talkIn 76 = .ok (.iload 6, 2) := by decide +kernel
theorem dX8_talkIn_78 : decode cX8_talkIn 78 = .ok (.iconst 2, 1) := by decide +kernel
theorem dX8_talkIn_79 : decode cX8_talkIn 79 = .ok (.idiv, 1) := by decide +kernel
theorem dX8_talkIn_80 : decode cX8_talkIn 80 = .ok (.invokestatic 163, 3) := by decide +kernel
theorem dX8_talkIn_83 : decode cX8_talkIn 83 = .ok (.aload_n 1, 1) := by decide +kernel
theorem dX8_talkIn_84 : decode cX8_talkIn 84 = .ok (.aload_n 0, 1) := by decide +kernel
theorem dX8_talkIn_85 : decode cX8_talkIn 85 = .ok (.iload 5, 2) := by decide +kernel
theorem dX8_talkIn_87 : decode cX8_talkIn 87 = .ok (.invokevirtual 150, 3) := by decide +kernel
theorem dX8_talkIn_90 : decode cX8_talkIn 90 = .ok (.iload 6, 2) := by decide +kernel
theorem dX8_talkIn_92 : decode cX8_talkIn 92 = .ok (.iload 6, 2) := by decide +kernel
theorem dX8_talkIn_94 : decode cX8_talkIn 94 = .ok (.iconst 2, 1) := by decide +kernel
theorem dX8_talkIn_95 : decode cX8_talkIn 95 = .ok (.idiv, 1) := by decide +kernel
theorem dX8_talkIn_96 : decode cX8_talkIn 96 = .ok (.isub, 1) := by decide +kernel
theorem dX8_talkIn_97 : decode cX8_talkIn 97 = .ok (.invokestatic 163, 3) := by decide +kernel
theorem dX8_talkIn_100 : decode cX8_talkIn 100 = .ok (.goto 11, 3) := by decide +kernel
theorem dX8_talkIn_103 : decode cX8_talkIn 103 = .ok (.aload_n 1, 1) := by decide +kernel
theorem dX8_talkIn_104 : decode cX8_talkIn 104 = .ok (.iload 5, 2) := by decide +kernel
theorem dX8_talkIn_106 : decode cX8_talkIn 106 = .ok (.iload 4, 2) := by decide +kernel
theorem dX8_talkIn_108 : decode cX8_talkIn 108 = .ok (.invokestatic 163, 3) := by decide +kernel
theorem dX8_talkIn_111 : decode cX8_talkIn 111 = .ok (.return_, 1) := by decide +kernel
theorem dX8_hourIn_0 : decode cX8_hourIn 0 = .ok (.iconst 0, 1) := by decide +kernel
theorem dX8_hourIn_1 : decode cX8_hourIn 1 = .ok (.istore_n 2, 1) := by decide +kernel
theorem dX8_hourIn_2 : decode cX8_hourIn 2 = .ok (.iconst 0, 1) := by decide +kernel
theorem dX8_hourIn_3 : decode cX8_hourIn 3 = .ok (.istore_n 3, 1) := by decide +kernel
theorem dX8_hourIn_4 : decode cX8_hourIn 4 = .ok (.iload_n 3, 1) := by decide +kernel
theorem dX8_hourIn_5 : decode cX8_hourIn 5 = .ok (.aload_n 0, 1) := by decide +kernel
theorem dX8_hourIn_6 : decode cX8_hourIn 6 = .ok (.getfield 70, 3) := by decide +kernel
theorem dX8_hourIn_9 : decode cX8_hourIn 9 = .ok (.if_icmp .ge 44, 3) := by decide +kernel
theorem dX8_hourIn_12 : decode cX8_hourIn 12 = .ok (.aload_n 1, 1) := by decide +kernel
theorem dX8_hourIn_13 : decode cX8_hourIn 13 = .ok (.iload_n 3, 1) := by decide +kernel
theorem dX8_hourIn_14 : decode cX8_hourIn 14 = .ok (.iaload, 1) := by decide +kernel
theorem dX8_hourIn_15 : decode cX8_hourIn 15 = .ok (.aload_n 0, 1) := by decide +kernel
theorem dX8_hourIn_16 : decode cX8_hourIn 16 = .ok (.getfield 127, 3) := by decide +kernel
theorem dX8_hourIn_19 : decode cX8_hourIn 19 = .ok (.if_icmp .ge 9, 3) := by decide +kernel
theorem dX8_hourIn_22 : decode cX8_hourIn 22 = .ok (.aload_n 1, 1) := by decide +kernel
theorem dX8_hourIn_23 : decode cX8_hourIn 23 = .ok (.iload_n 3, 1) := by decide +kernel
theorem dX8_hourIn_24 : decode cX8_hourIn 24 = .ok (.iaload, 1) := by decide +kernel
theorem dX8_hourIn_25 : decode cX8_hourIn 25 = .ok (.goto 7, 3) := by decide +kernel
theorem dX8_hourIn_28 : decode cX8_hourIn 28 = .ok (.aload_n 0, 1) := by decide +kernel
theorem dX8_hourIn_29 : decode cX8_hourIn 29 = .ok (.getfield 127, 3) := by decide +kernel
theorem dX8_hourIn_32 : decode cX8_hourIn 32 = .ok (.istore 4, 2) := by decide +kernel
theorem dX8_hourIn_34 : decode cX8_hourIn 34 = .ok (.aload_n 1, 1) := by decide +kernel
theorem dX8_hourIn_35 : decode cX8_hourIn 35 = .ok (.iload_n 3, 1) := by decide +kernel
theorem dX8_hourIn_36 : decode cX8_hourIn 36 = .ok (.dup2, 1) := by decide +kernel
theorem dX8_hourIn_37 : decode cX8_hourIn 37 = .ok (.iaload, 1) := by decide +kernel
theorem dX8_hourIn_38 : decode cX8_hourIn 38 = .ok (.iload 4, 2) := by decide +kernel
theorem dX8_hourIn_40 : decode cX8_hourIn 40 = .ok (.isub, 1) := by decide +kernel
theorem dX8_hourIn_41 : decode cX8_hourIn 41 = .ok (.iastore, 1) := by decide +kernel
theorem dX8_hourIn_42 : decode cX8_hourIn 42 = .ok (.iload_n 2, 1) := by decide +kernel
theorem dX8_hourIn_43 : decode cX8_hourIn 43 = .ok (.iload 4, 2) := by decide +kernel
theorem dX8_hourIn_45 : decode cX8_hourIn 45 = .ok (.iadd, 1) := by decide +kernel
theorem dX8_hourIn_46 : decode cX8_hourIn 46 = .ok (.istore_n 2, 1) := by decide +kernel
theorem dX8_hourIn_47 : decode cX8_hourIn 47 = .ok (.iinc 3 1, 3) := by decide +kernel
theorem dX8_hourIn_50 : decode cX8_hourIn 50 = .ok (.goto (-46), 3) := by decide +kernel
theorem dX8_hourIn_53 : decode cX8_hourIn 53 = .ok (.aload_n 1, 1) := by decide +kernel
theorem dX8_hourIn_54 : decode cX8_hourIn 54 = .ok (.bipush 8, 2) := by decide +kernel
theorem dX8_hourIn_56 : decode cX8_hourIn 56 = .ok (.dup2, 1) := by decide +kernel
theorem dX8_hourIn_57 : decode cX8_hourIn 57 = .ok (.iaload, 1) := by decide +kernel
theorem dX8_hourIn_58 : decode cX8_hourIn 58 = .ok (.iconst 1, 1) := by decide +kernel
theorem dX8_hourIn_59 : decode cX8_hourIn 59 = .ok (.iadd, 1) := by decide +kernel
theorem dX8_hourIn_60 : decode cX8_hourIn 60 = .ok (.iastore, 1) := by decide +kernel
theorem dX8_hourIn_61 : decode cX8_hourIn 61 = .ok (.iload_n 2, 1) := by decide +kernel
theorem dX8_hourIn_62 : decode cX8_hourIn 62 = .ok (.ireturn, 1) := by decide +kernel
theorem dX8_thunderIn_0 : decode cX8_thunderIn 0 = .ok (.aload_n 1, 1) := by decide +kernel
theorem dX8_thunderIn_1 : decode cX8_thunderIn 1 = .ok (.bipush 9, 2) := by decide +kernel
theorem dX8_thunderIn_3 : decode cX8_thunderIn 3 = .ok (.dup2, 1) := by decide +kernel
theorem dX8_thunderIn_4 : decode cX8_thunderIn 4 = .ok (.iaload, 1) := by decide +kernel
theorem dX8_thunderIn_5 : decode cX8_thunderIn 5 = .ok (.aload_n 0, 1) := by decide +kernel
theorem dX8_thunderIn_6 : decode cX8_thunderIn 6 = .ok (.aload_n 1, 1) := by decide +kernel
theorem dX8_thunderIn_7 : decode cX8_thunderIn 7 = .ok (.invokevirtual 167, 3) := by decide +kernel
theorem dX8_thunderIn_10 : decode cX8_thunderIn 10 = .ok (.iadd, 1) := by decide +kernel
theorem dX8_thunderIn_11 : decode cX8_thunderIn 11 = .ok (.iastore, 1) := by decide +kernel
theorem dX8_thunderIn_12 : decode cX8_thunderIn 12 = .ok (.iconst 0, 1) := by decide +kernel
theorem dX8_thunderIn_13 : decode cX8_thunderIn 13 = .ok (.istore_n 2, 1) := by decide +kernel
theorem dX8_thunderIn_14 : decode cX8_thunderIn 14 = .ok (.iload_n 2, 1) := by decide +kernel
theorem dX8_thunderIn_15 : decode cX8_thunderIn 15 = .ok (.aload_n 0, 1) := by decide +kernel
theorem dX8_thunderIn_16 : decode cX8_thunderIn 16 = .ok (.getfield 70, 3) := by decide +kernel
theorem dX8_thunderIn_19 : decode cX8_thunderIn 19 = .ok (.if_icmp .ge 13, 3) := by decide +kernel
theorem dX8_thunderIn_22 : decode cX8_thunderIn 22 = .ok (.aload_n 1, 1) := by decide +kernel
theorem dX8_thunderIn_23 : decode cX8_thunderIn 23 = .ok (.iload_n 2, 1) := by decide +kernel
theorem dX8_thunderIn_24 : decode cX8_thunderIn 24 = .ok (.iconst 0, 1) := by decide +kernel
theorem dX8_thunderIn_25 : decode cX8_thunderIn 25 = .ok (.iastore, 1) := by decide +kernel
theorem dX8_thunderIn_26 : decode cX8_thunderIn 26 = .ok (.iinc 2 1, 3) := by decide +kernel
theorem dX8_thunderIn_29 : decode cX8_thunderIn 29 = .ok (.goto (-15), 3) := by decide +kernel
theorem dX8_thunderIn_32 : decode cX8_thunderIn 32 = .ok (.return_, 1) := by decide +kernel
theorem dX8_talk_0 : decode cX8_talk 0 = .ok (.aload_n 0, 1) := by decide +kernel
theorem dX8_talk_1 : decode cX8_talk 1 = .ok (.iload_n 1, 1) := by decide +kernel
theorem dX8_talk_2 : decode cX8_talk 2 = .ok (.invokevirtual 133, 3) := by decide +kernel
theorem dX8_talk_5 : decode cX8_talk 5 = .ok (.ifCond .eq 13, 3) := by decide +kernel
theorem dX8_talk_8 : decode cX8_talk 8 = .ok (.iload_n 2, 1) := by decide +kernel
theorem dX8_talk_9 : decode cX8_talk 9 = .ok (.iconst 0, 1) := by decide +kernel
theorem dX8_talk_10 : decode cX8_talk 10 = .ok (.bipush 99, 2) := by decide +kernel
theorem dX8_talk_12 : decode cX8_talk 12 = .ok (.invokestatic 66, 3) := by decide +kernel
theorem dX8_talk_15 : decode cX8_talk 15 = .ok (.ifCond .ne 5, 3) := by decide +kernel
theorem dX8_talk_18 : decode cX8_talk 18 = .ok (.iconst (-1), 1) := by decide +kernel
theorem dX8_talk_19 : decode cX8_talk 19 = .ok (.ireturn, 1) := by decide +kernel
theorem dX8_talk_20 : decode cX8_talk 20 = .ok (.aload_n 0, 1) := by decide +kernel
theorem dX8_talk_21 : decode cX8_talk 21 = .ok (.getfield 130, 3) := by decide +kernel
theorem dX8_talk_24 : decode cX8_talk 24 = .ok (.bipush 40, 2) := by decide +kernel
theorem dX8_talk_26 : decode cX8_talk 26 = .ok (.if_icmp .ne 6, 3) := by decide +kernel
theorem dX8_talk_29 : decode cX8_talk 29 = .ok (.bipush (-2), 2) := by decide +kernel
theorem dX8_talk_31 : decode cX8_talk 31 = .ok (.ireturn, 1) := by decide +kernel
theorem dX8_talk_32 : decode cX8_talk 32 = .ok (.aload_n 0, 1) := by decide +kernel
theorem dX8_talk_33 : decode cX8_talk 33 = .ok (.invokevirtual 171, 3) := by decide +kernel
theorem dX8_talk_36 : decode cX8_talk 36 = .ok (.aload_n 0, 1) := by decide +kernel
theorem dX8_talk_37 : decode cX8_talk 37 = .ok (.aload_n 0, 1) := by decide +kernel
theorem dX8_talk_38 : decode cX8_talk 38 = .ok (.getfield 38, 3) := by decide +kernel
theorem dX8_talk_41 : decode cX8_talk 41 = .ok (.iload_n 1, 1) := by decide +kernel
theorem dX8_talk_42 : decode cX8_talk 42 = .ok (.iload_n 2, 1) := by decide +kernel
theorem dX8_talk_43 : decode cX8_talk 43 = .ok (.invokevirtual 174, 3) := by decide +kernel
theorem dX8_talk_46 : decode cX8_talk 46 = .ok (.aload_n 0, 1) := by decide +kernel
theorem dX8_talk_47 : decode cX8_talk 47 = .ok (.getfield 32, 3) := by decide +kernel
theorem dX8_talk_50 : decode cX8_talk 50 = .ok (.iload_n 1, 1) := by decide +kernel
theorem dX8_talk_51 : decode cX8_talk 51 = .ok (.iaload, 1) := by decide +kernel
theorem dX8_talk_52 : decode cX8_talk 52 = .ok (.iload_n 2, 1) := by decide +kernel
theorem dX8_talk_53 : decode cX8_talk 53 = .ok (.invokestatic 140, 3) := by decide +kernel
theorem dX8_talk_56 : decode cX8_talk 56 = .ok (.ireturn, 1) := by decide +kernel
theorem dX8_hour_0 : decode cX8_hour 0 = .ok (.aload_n 0, 1) := by decide +kernel
theorem dX8_hour_1 : decode cX8_hour 1 = .ok (.getfield 63, 3) := by decide +kernel
theorem dX8_hour_4 : decode cX8_hour 4 = .ok (.ifCond .ne 6, 3) := by decide +kernel
theorem dX8_hour_7 : decode cX8_hour 7 = .ok (.bipush (-4), 2) := by decide +kernel
theorem dX8_hour_9 : decode cX8_hour 9 = .ok (.ireturn, 1) := by decide +kernel
theorem dX8_hour_10 : decode cX8_hour 10 = .ok (.aload_n 0, 1) := by decide +kernel
theorem dX8_hour_11 : decode cX8_hour 11 = .ok (.getfield 130, 3) := by decide +kernel
theorem dX8_hour_14 : decode cX8_hour 14 = .ok (.bipush 40, 2) := by decide +kernel
theorem dX8_hour_16 : decode cX8_hour 16 = .ok (.if_icmp .ne 6, 3) := by decide +kernel
theorem dX8_hour_19 : decode cX8_hour 19 = .ok (.bipush (-2), 2) := by decide +kernel
theorem dX8_hour_21 : decode cX8_hour 21 = .ok (.ireturn, 1) := by decide +kernel
theorem dX8_hour_22 : decode cX8_hour 22 = .ok (.aload_n 0, 1) := by decide +kernel
theorem dX8_hour_23 : decode cX8_hour 23 = .ok (.invokevirtual 171, 3) := by decide +kernel
theorem dX8_hour_26 : decode cX8_hour 26 = .ok (.aload_n 0, 1) := by decide +kernel
theorem dX8_hour_27 : decode cX8_hour 27 = .ok (.aload_n 0, 1) := by decide +kernel
theorem dX8_hour_28 : decode cX8_hour 28 = .ok (.getfield 38, 3) := by decide +kernel
theorem dX8_hour_31 : decode cX8_hour 31 = .ok (.invokevirtual 177, 3) := by decide +kernel
theorem dX8_hour_34 : decode cX8_hour 34 = .ok (.ireturn, 1) := by decide +kernel
theorem dX8_open_0 : decode cX8_open 0 = .ok (.aload_n 0, 1) := by decide +kernel
theorem dX8_open_1 : decode cX8_open 1 = .ok (.iload_n 1, 1) := by decide +kernel
theorem dX8_open_2 : decode cX8_open 2 = .ok (.invokevirtual 156, 3) := by decide +kernel
theorem dX8_open_5 : decode cX8_open 5 = .ok (.ifCond .ne 5, 3) := by decide +kernel
theorem dX8_open_8 : decode cX8_open 8 = .ok (.iconst (-1), 1) := by decide +kernel
theorem dX8_open_9 : decode cX8_open 9 = .ok (.ireturn, 1) := by decide +kernel
theorem dX8_open_10 : decode cX8_open 10 = .ok (.aload_n 0, 1) := by decide +kernel
theorem dX8_open_11 : decode cX8_open 11 = .ok (.getfield 38, 3) := by decide +kernel
theorem dX8_open_14 : decode cX8_open 14 = .ok (.iload_n 1, 1) := by decide +kernel
theorem dX8_open_15 : decode cX8_open 15 = .ok (.iaload, 1) := by decide +kernel
theorem dX8_open_16 : decode cX8_open 16 = .ok (.ifCond .ne 6, 3) := by decide +kernel
theorem dX8_open_19 : decode cX8_open 19 = .ok (.bipush (-4), 2) := by decide +kernel
theorem dX8_open_21 : decode cX8_open 21 = .ok (.ireturn, 1) := by decide +kernel
theorem dX8_open_22 : decode cX8_open 22 = .ok (.aload_n 0, 1) := by decide +kernel
theorem dX8_open_23 : decode cX8_open 23 = .ok (.getfield 130, 3) := by decide +kernel
theorem dX8_open_26 : decode cX8_open 26 = .ok (.bipush 40, 2) := by decide +kernel
theorem dX8_open_28 : decode cX8_open 28 = .ok (.if_icmp .ne 6, 3) := by decide +kernel
theorem dX8_open_31 : decode cX8_open 31 = .ok (.bipush (-2), 2) := by decide +kernel
theorem dX8_open_33 : decode cX8_open 33 = .ok (.ireturn, 1) := by decide +kernel
theorem dX8_open_34 : decode cX8_open 34 = .ok (.aload_n 0, 1) := by decide +kernel
theorem dX8_open_35 : decode cX8_open 35 = .ok (.invokevirtual 171, 3) := by decide +kernel
theorem dX8_open_38 : decode cX8_open 38 = .ok (.aload_n 0, 1) := by decide +kernel
theorem dX8_open_39 : decode cX8_open 39 = .ok (.getfield 38, 3) := by decide +kernel
theorem dX8_open_42 : decode cX8_open 42 = .ok (.iload_n 1, 1) := by decide +kernel
theorem dX8_open_43 : decode cX8_open 43 = .ok (.iaload, 1) := by decide +kernel
theorem dX8_open_44 : decode cX8_open 44 = .ok (.istore_n 2, 1) := by decide +kernel
theorem dX8_open_45 : decode cX8_open 45 = .ok (.aload_n 0, 1) := by decide +kernel
theorem dX8_open_46 : decode cX8_open 46 = .ok (.getfield 38, 3) := by decide +kernel
theorem dX8_open_49 : decode cX8_open 49 = .ok (.iload_n 1, 1) := by decide +kernel
theorem dX8_open_50 : decode cX8_open 50 = .ok (.iconst 0, 1) := by decide +kernel
theorem dX8_open_51 : decode cX8_open 51 = .ok (.iastore, 1) := by decide +kernel
theorem dX8_open_52 : decode cX8_open 52 = .ok (.iload_n 2, 1) := by decide +kernel
theorem dX8_open_53 : decode cX8_open 53 = .ok (.ireturn, 1) := by decide +kernel
theorem dX8_thunder_0 : decode cX8_thunder 0 = .ok (.aload_n 0, 1) := by decide +kernel
theorem dX8_thunder_1 : decode cX8_thunder 1 = .ok (.aload_n 0, 1) := by decide +kernel
theorem dX8_thunder_2 : decode cX8_thunder 2 = .ok (.getfield 38, 3) := by decide +kernel
theorem dX8_thunder_5 : decode cX8_thunder 5 = .ok (.invokevirtual 167, 3) := by decide +kernel
theorem dX8_thunder_8 : decode cX8_thunder 8 = .ok (.ifCond .ne 6, 3) := by decide +kernel
theorem dX8_thunder_11 : decode cX8_thunder 11 = .ok (.bipush (-4), 2) := by decide +kernel
theorem dX8_thunder_13 : decode cX8_thunder 13 = .ok (.ireturn, 1) := by decide +kernel
theorem dX8_thunder_14 : decode cX8_thunder 14 = .ok (.aload_n 0, 1) := by decide +kernel
theorem dX8_thunder_15 : decode cX8_thunder 15 = .ok (.getfield 130, 3) := by decide +kernel
theorem dX8_thunder_18 : decode cX8_thunder 18 = .ok (.bipush 40, 2) := by decide +kernel
theorem dX8_thunder_20 : decode cX8_thunder 20 = .ok (.if_icmp .ne 6, 3) := by decide +kernel
theorem dX8_thunder_23 : decode cX8_thunder 23 = .ok (.bipush (-2), 2) := by decide +kernel
theorem dX8_thunder_25 : decode cX8_thunder 25 = .ok (.ireturn, 1) := by decide +kernel
theorem dX8_thunder_26 : decode cX8_thunder 26 = .ok (.aload_n 0, 1) := by decide +kernel
theorem dX8_thunder_27 : decode cX8_thunder 27 = .ok (.invokevirtual 171, 3) := by decide +kernel
theorem dX8_thunder_30 : decode cX8_thunder 30 = .ok (.aload_n 0, 1) := by decide +kernel
theorem dX8_thunder_31 : decode cX8_thunder 31 = .ok (.aload_n 0, 1) := by decide +kernel
theorem dX8_thunder_32 : decode cX8_thunder 32 = .ok (.getfield 38, 3) := by decide +kernel
theorem dX8_thunder_35 : decode cX8_thunder 35 = .ok (.invokevirtual 180, 3) := by decide +kernel
theorem dX8_thunder_38 : decode cX8_thunder 38 = .ok (.aload_n 0, 1) := by decide +kernel
theorem dX8_thunder_39 : decode cX8_thunder 39 = .ok (.getfield 38, 3) := by decide +kernel
theorem dX8_thunder_42 : decode cX8_thunder 42 = .ok (.bipush 9, 2) := by decide +kernel
theorem dX8_thunder_44 : decode cX8_thunder 44 = .ok (.iaload, 1) := by decide +kernel
theorem dX8_thunder_45 : decode cX8_thunder 45 = .ok (.ireturn, 1) := by decide +kernel
theorem dX8_undo_0 : decode cX8_undo 0 = .ok (.iload_n 1, 1) := by decide +kernel
theorem dX8_undo_1 : decode cX8_undo 1 = .ok (.iconst 0, 1) := by decide +kernel
theorem dX8_undo_2 : decode cX8_undo 2 = .ok (.aload_n 0, 1) := by decide +kernel
theorem dX8_undo_3 : decode cX8_undo 3 = .ok (.getfield 130, 3) := by decide +kernel
theorem dX8_undo_6 : decode cX8_undo 6 = .ok (.invokestatic 66, 3) := by decide +kernel
theorem dX8_undo_9 : decode cX8_undo 9 = .ok (.ifCond .ne 5, 3) := by decide +kernel
theorem dX8_undo_12 : decode cX8_undo 12 = .ok (.iconst (-1), 1) := by decide +kernel
theorem dX8_undo_13 : decode cX8_undo 13 = .ok (.ireturn, 1) := by decide +kernel
theorem dX8_undo_14 : decode cX8_undo 14 = .ok (.aload_n 0, 1) := by decide +kernel
theorem dX8_undo_15 : decode cX8_undo 15 = .ok (.getfield 130, 3) := by decide +kernel
theorem dX8_undo_18 : decode cX8_undo 18 = .ok (.iload_n 1, 1) := by decide +kernel
theorem dX8_undo_19 : decode cX8_undo 19 = .ok (.isub, 1) := by decide +kernel
theorem dX8_undo_20 : decode cX8_undo 20 = .ok (.istore_n 2, 1) := by decide +kernel
theorem dX8_undo_21 : decode cX8_undo 21 = .ok (.iload_n 2, 1) := by decide +kernel
theorem dX8_undo_22 : decode cX8_undo 22 = .ok (.ifCond .le 21, 3) := by decide +kernel
theorem dX8_undo_25 : decode cX8_undo 25 = .ok (.aload_n 0, 1) := by decide +kernel
theorem dX8_undo_26 : decode cX8_undo 26 = .ok (.getfield 44, 3) := by decide +kernel
theorem dX8_undo_29 : decode cX8_undo 29 = .ok (.bipush 17, 2) := by decide +kernel
theorem dX8_undo_31 : decode cX8_undo 31 = .ok (.iload_n 1, 1) := by decide +kernel
theorem dX8_undo_32 : decode cX8_undo 32 = .ok (.imul, 1) := by decide +kernel
theorem dX8_undo_33 : decode cX8_undo 33 = .ok (.aload_n 0, 1) := by decide +kernel
theorem dX8_undo_34 : decode cX8_undo 34 = .ok (.getfield 38, 3) := by decide +kernel
theorem dX8_undo_37 : decode cX8_undo 37 = .ok (.iconst 0, 1) := by decide +kernel
theorem dX8_undo_38 : decode cX8_undo 38 = .ok (.bipush 17, 2) := by decide +kernel
theorem dX8_undo_40 : decode cX8_undo 40 = .ok (.invokestatic 159, 3) := by decide +kernel
theorem dX8_undo_43 : decode cX8_undo 43 = .ok (.aload_n 0, 1) := by decide +kernel
theorem dX8_undo_44 : decode cX8_undo 44 = .ok (.iload_n 1, 1) := by decide +kernel
theorem dX8_undo_45 : decode cX8_undo 45 = .ok (.putfield 130, 3) := by decide +kernel
theorem dX8_undo_48 : decode cX8_undo 48 = .ok (.iload_n 2, 1) := by decide +kernel
theorem dX8_undo_49 : decode cX8_undo 49 = .ok (.ireturn, 1) := by decide +kernel
theorem dX8_keep_0 : decode cX8_keep 0 = .ok (.iload_n 1, 1) := by decide +kernel
theorem dX8_keep_1 : decode cX8_keep 1 = .ok (.iconst 0, 1) := by decide +kernel
theorem dX8_keep_2 : decode cX8_keep 2 = .ok (.iconst 2, 1) := by decide +kernel
theorem dX8_keep_3 : decode cX8_keep 3 = .ok (.invokestatic 66, 3) := by decide +kernel
theorem dX8_keep_6 : decode cX8_keep 6 = .ok (.ifCond .ne 5, 3) := by decide +kernel
theorem dX8_keep_9 : decode cX8_keep 9 = .ok (.iconst (-1), 1) := by decide +kernel
theorem dX8_keep_10 : decode cX8_keep 10 = .ok (.ireturn, 1) := by decide +kernel
theorem dX8_keep_11 : decode cX8_keep 11 = .ok (.aload_n 0, 1) := by decide +kernel
theorem dX8_keep_12 : decode cX8_keep 12 = .ok (.getfield 63, 3) := by decide +kernel
theorem dX8_keep_15 : decode cX8_keep 15 = .ok (.ifCond .ne 6, 3) := by decide +kernel
theorem dX8_keep_18 : decode cX8_keep 18 = .ok (.bipush (-4), 2) := by decide +kernel
theorem dX8_keep_20 : decode cX8_keep 20 = .ok (.ireturn, 1) := by decide +kernel
theorem dX8_keep_21 : decode cX8_keep 21 = .ok (.aload_n 0, 1) := by decide +kernel
theorem dX8_keep_22 : decode cX8_keep 22 = .ok (.getfield 38, 3) := by decide +kernel
theorem dX8_keep_25 : decode cX8_keep 25 = .ok (.iconst 0, 1) := by decide +kernel
theorem dX8_keep_26 : decode cX8_keep 26 = .ok (.aload_n 0, 1) := by decide +kernel
theorem dX8_keep_27 : decode cX8_keep 27 = .ok (.getfield 47, 3) := by decide +kernel
theorem dX8_keep_30 : decode cX8_keep 30 = .ok (.bipush 17, 2) := by decide +kernel
theorem dX8_keep_32 : decode cX8_keep 32 = .ok (.iload_n 1, 1) := by decide +kernel
theorem dX8_keep_33 : decode cX8_keep 33 = .ok (.imul, 1) := by decide +kernel
theorem dX8_keep_34 : decode cX8_keep 34 = .ok (.bipush 17, 2) := by decide +kernel
theorem dX8_keep_36 : decode cX8_keep 36 = .ok (.invokestatic 159, 3) := by decide +kernel
theorem dX8_keep_39 : decode cX8_keep 39 = .ok (.aload_n 0, 1) := by decide +kernel
theorem dX8_keep_40 : decode cX8_keep 40 = .ok (.getfield 44, 3) := by decide +kernel
theorem dX8_keep_43 : decode cX8_keep 43 = .ok (.iconst 0, 1) := by decide +kernel
theorem dX8_keep_44 : decode cX8_keep 44 = .ok (.aload_n 0, 1) := by decide +kernel
theorem dX8_keep_45 : decode cX8_keep 45 = .ok (.getfield 50, 3) := by decide +kernel
theorem dX8_keep_48 : decode cX8_keep 48 = .ok (.sipush 680, 3) := by decide +kernel
theorem dX8_keep_51 : decode cX8_keep 51 = .ok (.iload_n 1, 1) := by decide +kernel
theorem dX8_keep_52 : decode cX8_keep 52 = .ok (.imul, 1) := by decide +kernel
theorem dX8_keep_53 : decode cX8_keep 53 = .ok (.sipush 680, 3) := by decide +kernel
theorem dX8_keep_56 : decode cX8_keep 56 = .ok (.invokestatic 159, 3) := by decide +kernel
theorem dX8_keep_59 : decode cX8_keep 59 = .ok (.aload_n 0, 1) := by decide +kernel
theorem dX8_keep_60 : decode cX8_keep 60 = .ok (.getfield 53, 3) := by decide +kernel
theorem dX8_keep_63 : decode cX8_keep 63 = .ok (.iload_n 1, 1) := by decide +kernel
theorem dX8_keep_64 : decode cX8_keep 64 = .ok (.aload_n 0, 1) := by decide +kernel
theorem dX8_keep_65 : decode cX8_keep 65 = .ok (.getfield 130, 3) := by decide +kernel
theorem dX8_keep_68 : decode cX8_keep 68 = .ok (.iastore, 1) := by decide +kernel
theorem dX8_keep_69 : decode cX8_keep 69 = .ok (.aload_n 0, 1) := by decide +kernel
theorem dX8_keep_70 : decode cX8_keep 70 = .ok (.getfield 130, 3) := by decide +kernel
theorem dX8_keep_73 : decode cX8_keep 73 = .ok (.ireturn, 1) := by decide +kernel
theorem dX8_on_0 : decode cX8_on 0 = .ok (.iload_n 1, 1) := by decide +kernel
theorem dX8_on_1 : decode cX8_on 1 = .ok (.iconst 0, 1) := by decide +kernel
theorem dX8_on_2 : decode cX8_on 2 = .ok (.iconst 2, 1) := by decide +kernel
theorem dX8_on_3 : decode cX8_on 3 = .ok (.invokestatic 66, 3) := by decide +kernel
theorem dX8_on_6 : decode cX8_on 6 = .ok (.ifCond .ne 5, 3) := by decide +kernel
theorem dX8_on_9 : decode cX8_on 9 = .ok (.iconst (-1), 1) := by decide +kernel
theorem dX8_on_10 : decode cX8_on 10 = .ok (.ireturn, 1) := by decide +kernel
theorem dX8_on_11 : decode cX8_on 11 = .ok (.aload_n 0, 1) := by decide +kernel
theorem dX8_on_12 : decode cX8_on 12 = .ok (.getfield 53, 3) := by decide +kernel
theorem dX8_on_15 : decode cX8_on 15 = .ok (.iload_n 1, 1) := by decide +kernel
theorem dX8_on_16 : decode cX8_on 16 = .ok (.iaload, 1) := by decide +kernel
theorem dX8_on_17 : decode cX8_on 17 = .ok (.ifCond .ge 9, 3) := by decide +kernel
theorem dX8_on_20 : decode cX8_on 20 = .ok (.aload_n 0, 1) := by decide +kernel
theorem dX8_on_21 : decode cX8_on 21 = .ok (.iconst 1, 1) := by decide +kernel
theorem dX8_on_22 : decode cX8_on 22 = .ok (.invokevirtual 73, 3) := by decide +kernel
theorem dX8_on_25 : decode cX8_on 25 = .ok (.ireturn, 1) := by decide +kernel
theorem dX8_on_26 : decode cX8_on 26 = .ok (.aload_n 0, 1) := by decide +kernel
theorem dX8_on_27 : decode cX8_on 27 = .ok (.getfield 47, 3) := by decide +kernel
theorem dX8_on_30 : decode cX8_on 30 = .ok (.bipush 17, 2) := by decide +kernel
theorem dX8_on_32 : decode cX8_on 32 = .ok (.iload_n 1, 1) := by decide +kernel
theorem dX8_on_33 : decode cX8_on 33 = .ok (.imul, 1) := by decide +kernel
theorem dX8_on_34 : decode cX8_on 34 = .ok (.aload_n 0, 1) := by decide +kernel
theorem dX8_on_35 : decode cX8_on 35 = .ok (.getfield 38, 3) := by decide +kernel
theorem dX8_on_38 : decode cX8_on 38 = .ok (.iconst 0, 1) := by decide +kernel
theorem dX8_on_39 : decode cX8_on 39 = .ok (.bipush 17, 2) := by decide +kernel
theorem dX8_on_41 : decode cX8_on 41 = .ok (.invokestatic 159, 3) := by decide +kernel
theorem dX8_on_44 : decode cX8_on 44 = .ok (.aload_n 0, 1) := by decide +kernel
theorem dX8_on_45 : decode cX8_on 45 = .ok (.getfield 50, 3) := by decide +kernel
theorem dX8_on_48 : decode cX8_on 48 = .ok (.sipush 680, 3) := by decide +kernel
theorem dX8_on_51 : decode cX8_on 51 = .ok (.iload_n 1, 1) := by decide +kernel
theorem dX8_on_52 : decode cX8_on 52 = .ok (.imul, 1) := by decide +kernel
theorem dX8_on_53 : decode cX8_on 53 = .ok (.aload_n 0, 1) := by decide +kernel
theorem dX8_on_54 : decode cX8_on 54 = .ok (.getfield 44, 3) := by decide +kernel
theorem dX8_on_57 : decode cX8_on 57 = .ok (.iconst 0, 1) := by decide +kernel
theorem dX8_on_58 : decode cX8_on 58 = .ok (.sipush 680, 3) := by decide +kernel
theorem dX8_on_61 : decode cX8_on 61 = .ok (.invokestatic 159, 3) := by decide +kernel
theorem dX8_on_64 : decode cX8_on 64 = .ok (.aload_n 0, 1) := by decide +kernel
theorem dX8_on_65 : decode cX8_on 65 = .ok (.aload_n 0, 1) := by decide +kernel
theorem dX8_on_66 : decode cX8_on 66 = .ok (.getfield 53, 3) := by decide +kernel
theorem dX8_on_69 : decode cX8_on 69 = .ok (.iload_n 1, 1) := by decide +kernel
theorem dX8_on_70 : decode cX8_on 70 = .ok (.iaload, 1) := by decide +kernel
theorem dX8_on_71 : decode cX8_on 71 = .ok (.putfield 130, 3) := by decide +kernel
theorem dX8_on_74 : decode cX8_on 74 = .ok (.aload_n 0, 1) := by decide +kernel
theorem dX8_on_75 : decode cX8_on 75 = .ok (.getfield 130, 3) := by decide +kernel
theorem dX8_on_78 : decode cX8_on 78 = .ok (.ireturn, 1) := by decide +kernel
theorem dX8_says_0 : decode cX8_says 0 = .ok (.aload_n 0, 1) := by decide +kernel
theorem dX8_says_1 : decode cX8_says 1 = .ok (.iload_n 1, 1) := by decide +kernel
theorem dX8_says_2 : decode cX8_says 2 = .ok (.invokevirtual 133, 3) := by decide +kernel
theorem dX8_says_5 : decode cX8_says 5 = .ok (.ifCond .eq 26, 3) := by decide +kernel
theorem dX8_says_8 : decode cX8_says 8 = .ok (.iload_n 2, 1) := by decide +kernel
theorem dX8_says_9 : decode cX8_says 9 = .ok (.iconst 0, 1) := by decide +kernel
theorem dX8_says_10 : decode cX8_says 10 = .ok (.bipush 99, 2) := by decide +kernel
theorem dX8_says_12 : decode cX8_says 12 = .ok (.invokestatic 66, 3) := by decide +kernel
theorem dX8_says_15 : decode cX8_says 15 = .ok (.ifCond .eq 16, 3) := by decide +kernel
theorem dX8_says_18 : decode cX8_says 18 = .ok (.aload_n 0, 1) := by decide +kernel
theorem dX8_says_19 : decode cX8_says 19 = .ok (.getfield 32, 3) := by decide +kernel
theorem dX8_says_22 : decode cX8_says 22 = .ok (.iload_n 1, 1) := by decide +kernel
theorem dX8_says_23 : decode cX8_says 23 = .ok (.iaload, 1) := by decide +kernel
theorem dX8_says_24 : decode cX8_says 24 = .ok (.iload_n 2, 1) := by decide +kernel
theorem dX8_says_25 : decode cX8_says 25 = .ok (.invokestatic 140, 3) := by decide +kernel
theorem dX8_says_28 : decode cX8_says 28 = .ok (.goto 4, 3) := by decide +kernel
theorem dX8_says_31 : decode cX8_says 31 = .ok (.iconst (-1), 1) := by decide +kernel
theorem dX8_says_32 : decode cX8_says 32 = .ok (.ireturn, 1) := by decide +kernel
theorem dX8_breathes_0 : decode cX8_breathes 0 = .ok (.aload_n 0, 1) := by decide +kernel
theorem dX8_breathes_1 : decode cX8_breathes 1 = .ok (.iload_n 1, 1) := by decide +kernel
theorem dX8_breathes_2 : decode cX8_breathes 2 = .ok (.invokevirtual 133, 3) := by decide +kernel
theorem dX8_breathes_5 : decode cX8_breathes 5 = .ok (.ifCond .eq 22, 3) := by decide +kernel
theorem dX8_breathes_8 : decode cX8_breathes 8 = .ok (.iload_n 2, 1) := by decide +kernel
theorem dX8_breathes_9 : decode cX8_breathes 9 = .ok (.iconst 0, 1) := by decide +kernel
theorem dX8_breathes_10 : decode cX8_breathes 10 = .ok (.bipush 99, 2) := by decide +kernel
theorem dX8_breathes_12 : decode cX8_breathes 12 = .ok (.invokestatic 66, 3) := by decide +kernel
theorem dX8_breathes_15 : decode cX8_breathes 15 = .ok (.ifCond .eq 12, 3) := by decide +kernel
theorem dX8_breathes_18 : decode cX8_breathes 18 = .ok (.aload_n 0, 1) := by decide +kernel
theorem dX8_breathes_19 : decode cX8_breathes 19 = .ok (.iload_n 1, 1) := by decide +kernel
theorem dX8_breathes_20 : decode cX8_breathes 20 = .ok (.iload_n 2, 1) := by decide +kernel
theorem dX8_breathes_21 : decode cX8_breathes 21 = .ok (.invokevirtual 153, 3) := by decide +kernel
theorem dX8_breathes_24 : decode cX8_breathes 24 = .ok (.goto 4, 3) := by decide +kernel
theorem dX8_breathes_27 : decode cX8_breathes 27 = .ok (.iconst (-1), 1) := by decide +kernel
theorem dX8_breathes_28 : decode cX8_breathes 28 = .ok (.ireturn, 1) := by decide +kernel
theorem dX8_means_0 : decode cX8_means 0 = .ok (.aload_n 0, 1) := by decide +kernel
theorem dX8_means_1 : decode cX8_means 1 = .ok (.iload_n 1, 1) := by decide +kernel
theorem dX8_means_2 : decode cX8_means 2 = .ok (.invokevirtual 133, 3) := by decide +kernel
theorem dX8_means_5 : decode cX8_means 5 = .ok (.ifCond .eq 13, 3) := by decide +kernel
theorem dX8_means_8 : decode cX8_means 8 = .ok (.iload_n 2, 1) := by decide +kernel
theorem dX8_means_9 : decode cX8_means 9 = .ok (.iconst 0, 1) := by decide +kernel
theorem dX8_means_10 : decode cX8_means 10 = .ok (.bipush 99, 2) := by decide +kernel
theorem dX8_means_12 : decode cX8_means 12 = .ok (.invokestatic 66, 3) := by decide +kernel
theorem dX8_means_15 : decode cX8_means 15 = .ok (.ifCond .ne 5, 3) := by decide +kernel
theorem dX8_means_18 : decode cX8_means 18 = .ok (.iconst (-1), 1) := by decide +kernel
theorem dX8_means_19 : decode cX8_means 19 = .ok (.ireturn, 1) := by decide +kernel
theorem dX8_means_20 : decode cX8_means 20 = .ok (.iconst 0, 1) := by decide +kernel
theorem dX8_means_21 : decode cX8_means 21 = .ok (.istore_n 3, 1) := by decide +kernel
theorem dX8_means_22 : decode cX8_means 22 = .ok (.bipush (-9), 2) := by decide +kernel
theorem dX8_means_24 : decode cX8_means 24 = .ok (.istore 4, 2) := by decide +kernel
theorem dX8_means_26 : decode cX8_means 26 = .ok (.bipush 99, 2) := by decide +kernel
theorem dX8_means_28 : decode cX8_means 28 = .ok (.istore 5, 2) := by decide +kernel
theorem dX8_means_30 : decode cX8_means 30 = .ok (.iload 5, 2) := by decide +kernel
theorem dX8_means_32 : decode cX8_means 32 = .ok (.ifCond .lt 56, 3) := by decide +kernel
theorem dX8_means_35 : decode cX8_means 35 = .ok (.iload_n 3, 1) := by decide +kernel
theorem dX8_means_36 : decode cX8_means 36 = .ok (.aload_n 0, 1) := by decide +kernel
theorem dX8_means_37 : decode cX8_means 37 = .ok (.getfield 32, 3) := by decide +kernel
theorem dX8_means_40 : decode cX8_means 40 = .ok (.iload_n 1, 1) := by decide +kernel
theorem dX8_means_41 : decode cX8_means 41 = .ok (.iaload, 1) := by decide +kernel
theorem dX8_means_42 : decode cX8_means 42 = .ok (.iload 5, 2) := by decide +kernel
theorem dX8_means_44 : decode cX8_means 44 = .ok (.invokestatic 140, 3) := by decide +kernel
theorem dX8_means_47 : decode cX8_means 47 = .ok (.iload_n 2, 1) := by decide +kernel
theorem dX8_means_48 : decode cX8_means 48 = .ok (.if_icmp .ne 7, 3) := by decide +kernel
theorem dX8_means_51 : decode cX8_means 51 = .ok (.iconst 1, 1) := by decide +kernel
theorem dX8_means_52 : decode cX8_means 52 = .ok (.goto 4, 3) := by decide +kernel
theorem dX8_means_55 : decode cX8_means 55 = .ok (.iconst 0, 1) := by decide +kernel
theorem dX8_means_56 : decode cX8_means 56 = .ok (.iadd, 1) := by decide +kernel
theorem dX8_means_57 : decode cX8_means 57 = .ok (.istore_n 3, 1) := by decide +kernel
theorem dX8_means_58 : decode cX8_means 58 = .ok (.aload_n 0, 1) := by decide +kernel
theorem dX8_means_59 : decode cX8_means 59 = .ok (.getfield 32, 3) := by decide +kernel
theorem dX8_means_62 : decode cX8_means 62 = .ok (.iload_n 1, 1) := by decide +kernel
theorem dX8_means_63 : decode cX8_means 63 = .ok (.iaload, 1) := by decide +kernel
theorem dX8_means_64 : decode cX8_means 64 = .ok (.iload 5, 2) := by decide +kernel
theorem dX8_means_66 : decode cX8_means 66 = .ok (.invokestatic 140, 3) := by decide +kernel
theorem dX8_means_69 : decode cX8_means 69 = .ok (.iload_n 2, 1) := by decide +kernel
theorem dX8_means_70 : decode cX8_means 70 = .ok (.if_icmp .ne 8, 3) := by decide +kernel
theorem dX8_means_73 : decode cX8_means 73 = .ok (.iload 5, 2) := by decide +kernel
theorem dX8_means_75 : decode cX8_means 75 = .ok (.goto 5, 3) := by decide +kernel
theorem dX8_means_78 : decode cX8_means 78 = .ok (.iload 4, 2) := by decide +kernel
theorem dX8_means_80 : decode cX8_means 80 = .ok (.istore 4, 2) := by decide +kernel
theorem dX8_means_82 : decode cX8_means 82 = .ok (.iinc 5 (-1), 3) := by decide +kernel
theorem dX8_means_85 : decode cX8_means 85 = .ok (.goto (-55), 3) := by decide +kernel
theorem dX8_means_88 : decode cX8_means 88 = .ok (.aload_n 0, 1) := by decide +kernel
theorem dX8_means_89 : decode cX8_means 89 = .ok (.iload 4, 2) := by decide +kernel
theorem dX8_means_91 : decode cX8_means 91 = .ok (.invokevirtual 81, 3) := by decide +kernel
theorem dX8_means_94 : decode cX8_means 94 = .ok (.pop, 1) := by decide +kernel
theorem dX8_means_95 : decode cX8_means 95 = .ok (.iload_n 3, 1) := by decide +kernel
theorem dX8_means_96 : decode cX8_means 96 = .ok (.ireturn, 1) := by decide +kernel
theorem dX8_least_0 : decode cX8_least 0 = .ok (.aload_n 0, 1) := by decide +kernel
theorem dX8_least_1 : decode cX8_least 1 = .ok (.iload_n 1, 1) := by decide +kernel
theorem dX8_least_2 : decode cX8_least 2 = .ok (.invokevirtual 133, 3) := by decide +kernel
theorem dX8_least_5 : decode cX8_least 5 = .ok (.ifCond .eq 13, 3) := by decide +kernel
theorem dX8_least_8 : decode cX8_least 8 = .ok (.iload_n 2, 1) := by decide +kernel
theorem dX8_least_9 : decode cX8_least 9 = .ok (.iconst 0, 1) := by decide +kernel
theorem dX8_least_10 : decode cX8_least 10 = .ok (.bipush 99, 2) := by decide +kernel
theorem dX8_least_12 : decode cX8_least 12 = .ok (.invokestatic 66, 3) := by decide +kernel
theorem dX8_least_15 : decode cX8_least 15 = .ok (.ifCond .ne 5, 3) := by decide +kernel
theorem dX8_least_18 : decode cX8_least 18 = .ok (.iconst (-1), 1) := by decide +kernel
theorem dX8_least_19 : decode cX8_least 19 = .ok (.ireturn, 1) := by decide +kernel
theorem dX8_least_20 : decode cX8_least 20 = .ok (.iconst 0, 1) := by decide +kernel
theorem dX8_least_21 : decode cX8_least 21 = .ok (.istore_n 3, 1) := by decide +kernel
theorem dX8_least_22 : decode cX8_least 22 = .ok (.iload_n 3, 1) := by decide +kernel
theorem dX8_least_23 : decode cX8_least 23 = .ok (.bipush 100, 2) := by decide +kernel
theorem dX8_least_25 : decode cX8_least 25 = .ok (.if_icmp .ge 21, 3) := by decide +kernel
theorem dX8_least_28 : decode cX8_least 28 = .ok (.aload_n 0, 1) := by decide +kernel
theorem dX8_least_29 : decode cX8_least 29 = .ok (.iload_n 1, 1) := by decide +kernel
theorem dX8_least_30 : decode cX8_least 30 = .ok (.iload_n 3, 1) := by decide +kernel
theorem dX8_least_31 : decode cX8_least 31 = .ok (.invokevirtual 153, 3) := by decide +kernel
theorem dX8_least_34 : decode cX8_least 34 = .ok (.iload_n 2, 1) := by decide +kernel
theorem dX8_least_35 : decode cX8_least 35 = .ok (.if_icmp .lt 5, 3) := by decide +kernel
theorem dX8_least_38 : decode cX8_least 38 = .ok (.iload_n 3, 1) := by decide +kernel
theorem dX8_least_39 : decode cX8_least 39 = .ok (.ireturn, 1) := by decide +kernel
theorem dX8_least_40 : decode cX8_least 40 = .ok (.iinc 3 1, 3) := by decide +kernel
theorem dX8_least_43 : decode cX8_least 43 = .ok (.goto (-21), 3) := by decide +kernel
theorem dX8_least_46 : decode cX8_least 46 = .ok (.bipush (-9), 2) := by decide +kernel
theorem dX8_least_48 : decode cX8_least 48 = .ok (.ireturn, 1) := by decide +kernel
theorem dX8_begin_0 : decode cX8_begin 0 = .ok (.aload_n 0, 1) := by decide +kernel
theorem dX8_begin_1 : decode cX8_begin 1 = .ok (.getfield 38, 3) := by decide +kernel
theorem dX8_begin_4 : decode cX8_begin 4 = .ok (.iconst 0, 1) := by decide +kernel
theorem dX8_begin_5 : decode cX8_begin 5 = .ok (.aload_n 0, 1) := by decide +kernel
theorem dX8_begin_6 : decode cX8_begin 6 = .ok (.getfield 41, 3) := by decide +kernel
theorem dX8_begin_9 : decode cX8_begin 9 = .ok (.iconst 0, 1) := by decide +kernel
theorem dX8_begin_10 : decode cX8_begin 10 = .ok (.bipush 17, 2) := by decide +kernel
theorem dX8_begin_12 : decode cX8_begin 12 = .ok (.invokestatic 159, 3) := by decide +kernel
theorem dX8_begin_15 : decode cX8_begin 15 = .ok (.return_, 1) := by decide +kernel
theorem dX8_hangs_0 : decode cX8_hangs 0 = .ok (.aload_n 0, 1) := by decide +kernel
theorem dX8_hangs_1 : decode cX8_hangs 1 = .ok (.iload_n 1, 1) := by decide +kernel
theorem dX8_hangs_2 : decode cX8_hangs 2 = .ok (.invokevirtual 156, 3) := by decide +kernel
theorem dX8_hangs_5 : decode cX8_hangs 5 = .ok (.ifCond .eq 13, 3) := by decide +kernel
theorem dX8_hangs_8 : decode cX8_hangs 8 = .ok (.iload_n 2, 1) := by decide +kernel
theorem dX8_hangs_9 : decode cX8_hangs 9 = .ok (.iconst 0, 1) := by decide +kernel
theorem dX8_hangs_10 : decode cX8_hangs 10 = .ok (.bipush 60, 2) := by decide +kernel
theorem dX8_hangs_12 : decode cX8_hangs 12 = .ok (.invokestatic 66, 3) := by decide +kernel
theorem dX8_hangs_15 : decode cX8_hangs 15 = .ok (.ifCond .ne 5, 3) := by decide +kernel
theorem dX8_hangs_18 : decode cX8_hangs 18 = .ok (.iconst (-1), 1) := by decide +kernel
theorem dX8_hangs_19 : decode cX8_hangs 19 = .ok (.ireturn, 1) := by decide +kernel
theorem dX8_hangs_20 : decode cX8_hangs 20 = .ok (.aload_n 0, 1) := by decide +kernel
theorem dX8_hangs_21 : decode cX8_hangs 21 = .ok (.invokevirtual 184, 3) := by decide +kernel
theorem dX8_hangs_24 : decode cX8_hangs 24 = .ok (.iconst 0, 1) := by decide +kernel
theorem dX8_hangs_25 : decode cX8_hangs 25 = .ok (.istore_n 3, 1) := by decide +kernel
theorem dX8_hangs_26 : decode cX8_hangs 26 = .ok (.iload_n 3, 1) := by decide +kernel
theorem dX8_hangs_27 : decode cX8_hangs 27 = .ok (.iload_n 2, 1) := by decide +kernel
theorem dX8_hangs_28 : decode cX8_hangs 28 = .ok (.if_icmp .ge 18, 3) := by decide +kernel
theorem dX8_hangs_31 : decode cX8_hangs 31 = .ok (.aload_n 0, 1) := by decide +kernel
theorem dX8_hangs_32 : decode cX8_hangs 32 = .ok (.aload_n 0, 1) := by decide +kernel
theorem dX8_hangs_33 : decode cX8_hangs 33 = .ok (.getfield 41, 3) := by decide +kernel
theorem dX8_hangs_36 : decode cX8_hangs 36 = .ok (.invokevirtual 177, 3) := by decide +kernel
theorem dX8_hangs_39 : decode cX8_hangs 39 = .ok (.pop, 1) := by decide +kernel
theorem dX8_hangs_40 : decode cX8_hangs 40 = .ok (.iinc 3 1, 3) := by decide +kernel
theorem dX8_hangs_43 : decode cX8_hangs 43 = .ok (.goto (-17), 3) := by decide +kernel
theorem dX8_hangs_46 : decode cX8_hangs 46 = .ok (.aload_n 0, 1) := by decide +kernel
theorem dX8_hangs_47 : decode cX8_hangs 47 = .ok (.getfield 41, 3) := by decide +kernel
theorem dX8_hangs_50 : decode cX8_hangs 50 = .ok (.iload_n 1, 1) := by decide +kernel
theorem dX8_hangs_51 : decode cX8_hangs 51 = .ok (.iaload, 1) := by decide +kernel
theorem dX8_hangs_52 : decode cX8_hangs 52 = .ok (.ireturn, 1) := by decide +kernel
theorem dX8_clear_0 : decode cX8_clear 0 = .ok (.aload_n 0, 1) := by decide +kernel
theorem dX8_clear_1 : decode cX8_clear 1 = .ok (.getfield 63, 3) := by decide +kernel
theorem dX8_clear_4 : decode cX8_clear 4 = .ok (.ifCond .ne 6, 3) := by decide +kernel
theorem dX8_clear_7 : decode cX8_clear 7 = .ok (.bipush (-4), 2) := by decide +kernel
theorem dX8_clear_9 : decode cX8_clear 9 = .ok (.ireturn, 1) := by decide +kernel
theorem dX8_clear_10 : decode cX8_clear 10 = .ok (.aload_n 0, 1) := by decide +kernel
theorem dX8_clear_11 : decode cX8_clear 11 = .ok (.invokevirtual 184, 3) := by decide +kernel
theorem dX8_clear_14 : decode cX8_clear 14 = .ok (.iconst 0, 1) := by decide +kernel
theorem dX8_clear_15 : decode cX8_clear 15 = .ok (.istore_n 1, 1) := by decide +kernel
theorem dX8_clear_16 : decode cX8_clear 16 = .ok (.iload_n 1, 1) := by decide +kernel
theorem dX8_clear_17 : decode cX8_clear 17 = .ok (.sipush 1000, 3) := by decide +kernel
theorem dX8_clear_20 : decode cX8_clear 20 = .ok (.if_icmp .gt 31, 3) := by decide +kernel
theorem dX8_clear_23 : decode cX8_clear 23 = .ok (.aload_n 0, 1) := by decide +kernel
theorem dX8_clear_24 : decode cX8_clear 24 = .ok (.aload_n 0, 1) := by decide +kernel
theorem dX8_clear_25 : decode cX8_clear 25 = .ok (.getfield 41, 3) := by decide +kernel
theorem dX8_clear_28 : decode cX8_clear 28 = .ok (.invokevirtual 167, 3) := by decide +kernel
theorem dX8_clear_31 : decode cX8_clear 31 = .ok (.ifCond .ne 5, 3) := by decide +kernel
theorem dX8_clear_34 : decode cX8_clear 34 = .ok (.iload_n 1, 1) := by decide +kernel
theorem dX8_clear_35 : decode cX8_clear 35 = .ok (.ireturn, 1) := by decide +kernel
theorem dX8_clear_36 : decode cX8_clear 36 = .ok (.aload_n 0, 1) := by decide +kernel
theorem dX8_clear_37 : decode cX8_clear 37 = .ok (.aload_n 0, 1) := by decide +kernel
theorem dX8_clear_38 : decode cX8_clear 38 = .ok (.getfield 41, 3) := by decide +kernel
theorem dX8_clear_41 : decode cX8_clear 41 = .ok (.invokevirtual 177, 3) := by decide +kernel
theorem dX8_clear_44 : decode cX8_clear 44 = .ok (.pop, 1) := by decide +kernel
theorem dX8_clear_45 : decode cX8_clear 45 = .ok (.iinc 1 1, 3) := by decide +kernel
theorem dX8_clear_48 : decode cX8_clear 48 = .ok (.goto (-32), 3) := by decide +kernel
theorem dX8_clear_51 : decode cX8_clear 51 = .ok (.bipush (-9), 2) := by decide +kernel
theorem dX8_clear_53 : decode cX8_clear 53 = .ok (.ireturn, 1) := by decide +kernel
theorem dX8_window_0 : decode cX8_window 0 = .ok (.iload_n 1, 1) := by decide +kernel
theorem dX8_window_1 : decode cX8_window 1 = .ok (.iconst 0, 1) := by decide +kernel
theorem dX8_window_2 : decode cX8_window 2 = .ok (.sipush 7992, 3) := by decide +kernel
theorem dX8_window_5 : decode cX8_window 5 = .ok (.invokestatic 66, 3) := by decide +kernel
theorem dX8_window_8 : decode cX8_window 8 = .ok (.ifCond .ne 5, 3) := by decide +kernel
theorem dX8_window_11 : decode cX8_window 11 = .ok (.iconst (-1), 1) := by decide +kernel
theorem dX8_window_12 : decode cX8_window 12 = .ok (.ireturn, 1) := by decide +kernel
theorem dX8_window_13 : decode cX8_window 13 = .ok (.aload_n 0, 1) := by decide +kernel
theorem dX8_window_14 : decode cX8_window 14 = .ok (.getfield 63, 3) := by decide +kernel
theorem dX8_window_17 : decode cX8_window 17 = .ok (.ifCond .ne 6, 3) := by decide +kernel
theorem dX8_window_20 : decode cX8_window 20 = .ok (.bipush (-4), 2) := by decide +kernel
theorem dX8_window_22 : decode cX8_window 22 = .ok (.ireturn, 1) := by decide +kernel
theorem dX8_window_23 : decode cX8_window 23 = .ok (.bipush (-9), 2) := by decide +kernel
theorem dX8_window_25 : decode cX8_window 25 = .ok (.istore_n 2, 1) := by decide +kernel
theorem dX8_window_26 : decode cX8_window 26 = .ok (.iconst 0, 1) := by decide +kernel
theorem dX8_window_27 : decode cX8_window 27 = .ok (.istore_n 3, 1) := by decide +kernel
theorem dX8_window_28 : decode cX8_window 28 = .ok (.iload_n 3, 1) := by decide +kernel
theorem dX8_window_29 : decode cX8_window 29 = .ok (.iconst 1, 1) := by decide +kernel
theorem dX8_window_30 : decode cX8_window 30 = .ok (.aload_n 0, 1) := by decide +kernel
theorem dX8_window_31 : decode cX8_window 31 = .ok (.getfield 70, 3) := by decide +kernel
theorem dX8_window_34 : decode cX8_window 34 = .ok (.ishl, 1) := by decide +kernel
theorem dX8_window_35 : decode cX8_window 35 = .ok (.if_icmp .ge 84, 3) := by decide +kernel
theorem dX8_window_38 : decode cX8_window 38 = .ok (.iconst 0, 1) := by decide +kernel
theorem dX8_window_39 : decode cX8_window 39 = .ok (.istore 4, 2) := by decide +kernel
theorem dX8_window_41 : decode cX8_window 41 = .ok (.iconst 0, 1) := by decide +kernel
theorem dX8_window_42 : decode cX8_window 42 = .ok (.istore 5, 2) := by decide +kernel
theorem dX8_window_44 : decode cX8_window 44 = .ok (.iload 5, 2) := by decide +kernel
theorem dX8_window_46 : decode cX8_window 46 = .ok (.aload_n 0, 1) := by decide +kernel
theorem dX8_window_47 : decode cX8_window 47 = .ok (.getfield 70, 3) := by decide +kernel
theorem dX8_window_50 : decode cX8_window 50 = .ok (.if_icmp .ge 34, 3) := by decide +kernel
theorem dX8_window_53 : decode cX8_window 53 = .ok (.iload 4, 2) := by decide +kernel
theorem dX8_window_55 : decode cX8_window 55 = .ok (.iload_n 3, 1) := by decide +kernel
theorem dX8_window_56 : decode cX8_window 56 = .ok (.iload 5, 2) := by decide +kernel
theorem dX8_window_58 : decode cX8_window 58 = .ok (.invokestatic 187, 3) := by decide +kernel
theorem dX8_window_61 : decode cX8_window 61 = .ok (.ifCond .eq 7, 3) := by decide +kernel
theorem dX8_window_64 : decode cX8_window 64 = .ok (.iconst 0, 1) := by decide +kernel
theorem dX8_window_65 : decode cX8_window 65 = .ok (.goto 10, 3) := by decide +kernel
theorem dX8_window_68 : decode cX8_window 68 = .ok (.aload_n 0, 1) := by decide +kernel
theorem dX8_window_69 : decode cX8_window 69 = .ok (.getfield 38, 3) := by decide +kernel
theorem dX8_window_72 : decode cX8_window 72 = .ok (.iload 5, 2) := by decide +kernel
theorem dX8_window_74 : decode cX8_window 74 = .ok (.iaload, 1) := by decide +kernel
theorem dX8_window_75 : decode cX8_window 75 = .ok (.iadd, 1) := by decide +kernel
theorem dX8_window_76 : decode cX8_window 76 = .ok (.istore 4, 2) := by decide +kernel
theorem dX8_window_78 : decode cX8_window 78 = .ok (.iinc 5 1, 3) := by decide +kernel
theorem dX8_window_81 : decode cX8_window 81 = .ok (.goto (-37), 3) := by decide +kernel
theorem dX8_window_84 : decode cX8_window 84 = .ok (.iload 4, 2) := by decide +kernel
theorem dX8_window_86 : decode cX8_window 86 = .ok (.iload_n 1, 1) := by decide +kernel
theorem dX8_window_87 : decode cX8_window 87 = .ok (.if_icmp .gt 24, 3) := by decide +kernel
theorem dX8_window_90 : decode cX8_window 90 = .ok (.iload_n 2, 1) := by decide +kernel
theorem dX8_window_91 : decode cX8_window 91 = .ok (.bipush (-9), 2) := by decide +kernel
theorem dX8_window_93 : decode cX8_window 93 = .ok (.if_icmp .eq 14, 3) := by decide +kernel
theorem dX8_window_96 : decode cX8_window 96 = .ok (.iload_n 3, 1) := by decide +kernel
theorem dX8_window_97 : decode cX8_window 97 = .ok (.invokestatic 190, 3) := by decide +kernel
theorem dX8_window_100 : decode cX8_window 100 = .ok (.iload_n 2, 1) := by decide +kernel
theorem dX8_window_101 : decode cX8_window 101 = .ok (.invokestatic 190, 3) := by decide +kernel
theorem dX8_window_104 : decode cX8_window 104 = .ok (.if_icmp .ge 7, 3) := by decide +kernel
theorem dX8_window_107 : decode cX8_window 107 = .ok (.iload_n 3, 1) := by decide +kernel
theorem dX8_window_108 : decode cX8_window 108 = .ok (.goto 4, 3) := by decide +kernel
theorem dX8_window_111 : decode cX8_window 111 = .ok (.iload_n 2, 1) := by decide +kernel
theorem dX8_window_112 : decode cX8_window 112 = .ok (.istore_n 2, 1) := by decide +kernel
theorem dX8_window_113 : decode cX8_window 113 = .ok (.iinc 3 1, 3) := by decide +kernel
theorem dX8_window_116 : decode cX8_window 116 = .ok (.goto (-88), 3) := by decide +kernel
theorem dX8_window_119 : decode cX8_window 119 = .ok (.aload_n 0, 1) := by decide +kernel
theorem dX8_window_120 : decode cX8_window 120 = .ok (.iload_n 2, 1) := by decide +kernel
theorem dX8_window_121 : decode cX8_window 121 = .ok (.invokevirtual 81, 3) := by decide +kernel
theorem dX8_window_124 : decode cX8_window 124 = .ok (.pop, 1) := by decide +kernel
theorem dX8_window_125 : decode cX8_window 125 = .ok (.iload_n 2, 1) := by decide +kernel
theorem dX8_window_126 : decode cX8_window 126 = .ok (.invokestatic 190, 3) := by decide +kernel
theorem dX8_window_129 : decode cX8_window 129 = .ok (.ireturn, 1) := by decide +kernel
theorem dX8_hangsBy_0 : decode cX8_hangsBy 0 = .ok (.aload_n 0, 1) := by decide +kernel
theorem dX8_hangsBy_1 : decode cX8_hangsBy 1 = .ok (.invokevirtual 184, 3) := by decide +kernel
theorem dX8_hangsBy_4 : decode cX8_hangsBy 4 = .ok (.iconst 1, 1) := by decide +kernel
theorem dX8_hangsBy_5 : decode cX8_hangsBy 5 = .ok (.istore 6, 2) := by decide +kernel
theorem dX8_hangsBy_7 : decode cX8_hangsBy 7 = .ok (.iconst 1, 1) := by decide +kernel
theorem dX8_hangsBy_8 : decode cX8_hangsBy 8 = .ok (.istore 7, 2) := by decide +kernel
theorem dX8_hangsBy_10 : decode cX8_hangsBy 10 = .ok (.iload 7, 2) := by decide +kernel
theorem dX8_hangsBy_12 : decode cX8_hangsBy 12 = .ok (.iload_n 2, 1) := by decide +kernel
theorem dX8_hangsBy_13 : decode cX8_hangsBy 13 = .ok (.if_icmp .ge 18, 3) := by decide +kernel
theorem dX8_hangsBy_16 : decode cX8_hangsBy 16 = .ok (.iload 6, 2) := by decide +kernel
theorem dX8_hangsBy_18 : decode cX8_hangsBy 18 = .ok (.aload_n 0, 1) := by decide +kernel
theorem dX8_hangsBy_19 : decode cX8_hangsBy 19 = .ok (.getfield 63, 3) := by decide +kernel
theorem dX8_hangsBy_22 : decode cX8_hangsBy 22 = .ok (.imul, 1) := by decide +kernel
theorem dX8_hangsBy_23 : decode cX8_hangsBy 23 = .ok (.istore 6, 2) := by decide +kernel
theorem dX8_hangsBy_25 : decode cX8_hangsBy 25 = .ok (.iinc 7 1, 3) := by decide +kernel
theorem dX8_hangsBy_28 : decode cX8_hangsBy 28 = .ok (.goto (-18), 3) := by decide +kernel
theorem dX8_hangsBy_31 : decode cX8_hangsBy 31 = .ok (.iconst 0, 1) := by decide +kernel
theorem dX8_hangsBy_32 : decode cX8_hangsBy 32 = .ok (.istore 7, 2) := by decide +kernel
theorem dX8_hangsBy_34 : decode cX8_hangsBy 34 = .ok (.iload 7, 2) := by decide +kernel
theorem dX8_hangsBy_36 : decode cX8_hangsBy 36 = .ok (.iload_n 2, 1) := by decide +kernel
theorem dX8_hangsBy_37 : decode cX8_hangsBy 37 = .ok (.if_icmp .ge 46, 3) := by decide +kernel
theorem dX8_hangsBy_40 : decode cX8_hangsBy 40 = .ok (.aload_n 0, 1) := by decide +kernel
theorem dX8_hangsBy_41 : decode cX8_hangsBy 41 = .ok (.aload_n 0, 1) := by decide +kernel
theorem dX8_hangsBy_42 : decode cX8_hangsBy 42 = .ok (.getfield 41, 3) := by decide +kernel
theorem dX8_hangsBy_45 : decode cX8_hangsBy 45 = .ok (.iload_n 1, 1) := by decide +kernel
theorem dX8_hangsBy_46 : decode cX8_hangsBy 46 = .ok (.iload 6, 2) := by decide +kernel
theorem dX8_hangsBy_48 : decode cX8_hangsBy 48 = .ok (.idiv, 1) := by decide +kernel
theorem dX8_hangsBy_49 : decode cX8_hangsBy 49 = .ok (.aload_n 0, 1) := by decide +kernel
theorem dX8_hangsBy_50 : decode cX8_hangsBy 50 = .ok (.getfield 63, 3) := by decide +kernel
theorem dX8_hangsBy_53 : decode cX8_hangsBy 53 = .ok (.irem, 1) := by decide +kernel
theorem dX8_hangsBy_54 : decode cX8_hangsBy 54 = .ok (.iload_n 3, 1) := by decide +kernel
theorem dX8_hangsBy_55 : decode cX8_hangsBy 55 = .ok (.invokevirtual 174, 3) := by decide +kernel
theorem dX8_hangsBy_58 : decode cX8_hangsBy 58 = .ok (.iload 6, 2) := by decide +kernel
theorem dX8_hangsBy_60 : decode cX8_hangsBy 60 = .ok (.iconst 1, 1) := by decide +kernel
theorem dX8_hangsBy_61 : decode cX8_hangsBy 61 = .ok (.if_icmp .le 13, 3) := by decide +kernel
theorem dX8_hangsBy_64 : decode cX8_hangsBy 64 = .ok (.iload 6, 2) := by decide +kernel
theorem dX8_hangsBy_66 : decode cX8_hangsBy 66 = .ok (.aload_n 0, 1) := by decide +kernel
theorem dX8_hangsBy_67 : decode cX8_hangsBy 67 = .ok (.getfield 63, 3) := by decide +kernel
theorem dX8_hangsBy_70 : decode cX8_hangsBy 70 = .ok (.idiv, 1) := by decide +kernel
theorem dX8_hangsBy_71 : decode cX8_hangsBy 71 = .ok (.goto 4, 3) := by decide +kernel
theorem dX8_hangsBy_74 : decode cX8_hangsBy 74 = .ok (.iconst 1, 1) := by decide +kernel
theorem dX8_hangsBy_75 : decode cX8_hangsBy 75 = .ok (.istore 6, 2) := by decide +kernel
theorem dX8_hangsBy_77 : decode cX8_hangsBy 77 = .ok (.iinc 7 1, 3) := by decide +kernel
theorem dX8_hangsBy_80 : decode cX8_hangsBy 80 = .ok (.goto (-46), 3) := by decide +kernel
theorem dX8_hangsBy_83 : decode cX8_hangsBy 83 = .ok (.aload_n 0, 1) := by decide +kernel
theorem dX8_hangsBy_84 : decode cX8_hangsBy 84 = .ok (.getfield 41, 3) := by decide +kernel
theorem dX8_hangsBy_87 : decode cX8_hangsBy 87 = .ok (.iload 4, 2) := by decide +kernel
theorem dX8_hangsBy_89 : decode cX8_hangsBy 89 = .ok (.iaload, 1) := by decide +kernel
theorem dX8_hangsBy_90 : decode cX8_hangsBy 90 = .ok (.iload 5, 2) := by decide +kernel
theorem dX8_hangsBy_92 : decode cX8_hangsBy 92 = .ok (.if_icmp .lt 7, 3) := by decide +kernel
theorem dX8_hangsBy_95 : decode cX8_hangsBy 95 = .ok (.iconst 1, 1) := by decide +kernel
theorem dX8_hangsBy_96 : decode cX8_hangsBy 96 = .ok (.goto 4, 3) := by decide +kernel
theorem dX8_hangsBy_99 : decode cX8_hangsBy 99 = .ok (.iconst 0, 1) := by decide +kernel
theorem dX8_hangsBy_100 : decode cX8_hangsBy 100 = .ok (.ireturn, 1) := by decide +kernel
theorem dX8_talks_0 : decode cX8_talks 0 = .ok (.iload_n 1, 1) := by decide +kernel
theorem dX8_talks_1 : decode cX8_talks 1 = .ok (.iconst 0, 1) := by decide +kernel
theorem dX8_talks_2 : decode cX8_talks 2 = .ok (.bipush 99, 2) := by decide +kernel
theorem dX8_talks_4 : decode cX8_talks 4 = .ok (.invokestatic 66, 3) := by decide +kernel
theorem dX8_talks_7 : decode cX8_talks 7 = .ok (.ifCond .eq 32, 3) := by decide +kernel
theorem dX8_talks_10 : decode cX8_talks 10 = .ok (.aload_n 0, 1) := by decide +kernel
theorem dX8_talks_11 : decode cX8_talks 11 = .ok (.iload_n 2, 1) := by decide +kernel
theorem dX8_talks_12 : decode cX8_talks 12 = .ok (.invokevirtual 156, 3) := by decide +kernel
theorem dX8_talks_15 : decode cX8_talks 15 = .ok (.ifCond .eq 24, 3) := by decide +kernel
theorem dX8_talks_18 : decode cX8_talks 18 = .ok (.iload_n 3, 1) := by decide +kernel
theorem dX8_talks_19 : decode cX8_talks 19 = .ok (.iconst 0, 1) := by decide +kernel
theorem dX8_talks_20 : decode cX8_talks 20 = .ok (.sipush 999, 3) := by decide +kernel
theorem dX8_talks_23 : decode cX8_talks 23 = .ok (.invokestatic 66, 3) := by decide +kernel
theorem dX8_talks_26 : decode cX8_talks 26 = .ok (.ifCond .eq 13, 3) := by decide +kernel
theorem dX8_talks_29 : decode cX8_talks 29 = .ok (.iload 4, 2) := by decide +kernel
theorem dX8_talks_31 : decode cX8_talks 31 = .ok (.iconst 0, 1) := by decide +kernel
theorem dX8_talks_32 : decode cX8_talks 32 = .ok (.iconst 5, 1) := by decide +kernel
theorem dX8_talks_33 : decode cX8_talks 33 = .ok (.invokestatic 66, 3) := by decide +kernel
theorem dX8_talks_36 : decode cX8_talks 36 = .ok (.ifCond .ne 5, 3) := by decide +kernel
theorem dX8_talks_39 : decode cX8_talks 39 = .ok (.iconst (-1), 1) := by decide +kernel
theorem dX8_talks_40 : decode cX8_talks 40 = .ok (.ireturn, 1) := by decide +kernel
theorem dX8_talks_41 : decode cX8_talks 41 = .ok (.iconst 1, 1) := by decide +kernel
theorem dX8_talks_42 : decode cX8_talks 42 = .ok (.istore 5, 2) := by decide +kernel
theorem dX8_talks_44 : decode cX8_talks 44 = .ok (.iconst 0, 1) := by decide +kernel
theorem dX8_talks_45 : decode cX8_talks 45 = .ok (.istore 6, 2) := by decide +kernel
theorem dX8_talks_47 : decode cX8_talks 47 = .ok (.iload 6, 2) := by decide +kernel
theorem dX8_talks_49 : decode cX8_talks 49 = .ok (.iconst 3, 1) := by decide +kernel
theorem dX8_talks_50 : decode cX8_talks 50 = .ok (.if_icmp .gt 110, 3) := by decide +kernel
theorem dX8_talks_53 : decode cX8_talks 53 = .ok (.iconst 0, 1) := by decide +kernel
theorem dX8_talks_54 : decode cX8_talks 54 = .ok (.istore 7, 2) := by decide +kernel
theorem dX8_talks_56 : decode cX8_talks 56 = .ok (.iload 7, 2) := by decide +kernel
theorem dX8_talks_58 : decode cX8_talks 58 = .ok (.iload 5, 2) := by decide +kernel
theorem dX8_talks_60 : decode cX8_talks 60 = .ok (.if_icmp .ge 85, 3) := by decide +kernel
theorem dX8_talks_63 : decode cX8_talks 63 = .ok (.aload_n 0, 1) := by decide +kernel
theorem dX8_talks_64 : decode cX8_talks 64 = .ok (.iload 7, 2) := by decide +kernel
theorem dX8_talks_66 : decode cX8_talks 66 = .ok (.iload 6, 2) := by decide +kernel
theorem dX8_talks_68 : decode cX8_talks 68 = .ok (.iload_n 1, 1) := by decide +kernel
theorem dX8_talks_69 : decode cX8_talks 69 = .ok (.iload_n 2, 1) := by decide +kernel
theorem dX8_talks_70 : decode cX8_talks 70 = .ok (.iload_n 3, 1) := by decide +kernel
theorem dX8_talks_71 : decode cX8_talks 71 = .ok (.invokevirtual 193, 3) := by decide +kernel
theorem dX8_talks_74 : decode cX8_talks 74 = .ok (.ifCond .eq 65, 3) := by decide +kernel
theorem dX8_talks_77 : decode cX8_talks 77 = .ok (.aload_n 0, 1) := by decide +kernel
theorem dX8_talks_78 : decode cX8_talks 78 = .ok (.getfield 7, 3) := by decide +kernel
theorem dX8_talks_81 : decode cX8_talks 81 = .ok (.iload 4, 2) := by decide +kernel
theorem dX8_talks_83 : decode cX8_talks 83 = .ok (.iload 6, 2) := by decide +kernel
theorem dX8_talks_85 : decode cX8_talks 85 = .ok (.iastore, 1) := by decide +kernel
theorem dX8_talks_86 : decode cX8_talks 86 = .ok (.iload 7, 2) := by decide +kernel
theorem dX8_talks_88 : decode cX8_talks 88 = .ok (.istore 8, 2) := by decide +kernel
theorem dX8_talks_90 : decode cX8_talks 90 = .ok (.iload 6, 2) := by decide +kernel
theorem dX8_talks_92 : decode cX8_talks 92 = .ok (.iconst 1, 1) := by decide +kernel
theorem dX8_talks_93 : decode cX8_talks 93 = .ok (.isub, 1) := by decide +kernel
theorem dX8_talks_94 : decode cX8_talks 94 = .ok (.istore 9, 2) := by decide +kernel
theorem dX8_talks_96 : decode cX8_talks 96 = .ok (.iload 9, 2) := by decide +kernel
theorem dX8_talks_98 : decode cX8_talks 98 = .ok (.ifCond .lt 38, 3) := by decide +kernel
theorem dX8_talks_101 : decode cX8_talks 101 = .ok (.aload_n 0, 1) := by decide +kernel
theorem dX8_talks_102 : decode cX8_talks 102 = .ok (.getfield 13, 3) := by decide +kernel
theorem dX8_talks_105 : decode cX8_talks 105 = .ok (.bipush 40, 2) := by decide +kernel
theorem dX8_talks_107 : decode cX8_talks 107 = .ok (.iload 4, 2) := by decide +kernel
theorem dX8_talks_109 : decode cX8_talks 109 = .ok (.imul, 1) := by decide +kernel
theorem dX8_talks_110 : decode cX8_talks 110 = .ok (.iload 9, 2) := by decide +kernel
theorem dX8_talks_112 : decode cX8_talks 112 = .ok (.iadd, 1) := by decide +kernel
theorem dX8_talks_113 : decode cX8_talks 113 = .ok (.iload 8, 2) := by decide +kernel
theorem dX8_talks_115 : decode cX8_talks 115 = .ok (.aload_n 0, 1) := by decide +kernel
theorem dX8_talks_116 : decode cX8_talks 116 = .ok (.getfield 63, 3) := by decide +kernel
theorem dX8_talks_119 : decode cX8_talks 119 = .ok (.irem, 1) := by decide +kernel
theorem dX8_talks_120 : decode cX8_talks 120 = .ok (.iastore, 1) := by decide +kernel
theorem dX8_talks_121 : decode cX8_talks 121 = .ok (.iload 8, 2) := by decide +kernel
theorem dX8_talks_123 : decode cX8_talks 123 = .ok (.aload_n 0, 1) := by decide +kernel
theorem dX8_talks_124 : decode cX8_talks 124 = .ok (.getfield 63, 3) := by decide +kernel
theorem dX8_talks_127 : decode cX8_talks 127 = .ok (.idiv, 1) := by decide +kernel
theorem dX8_talks_128 : decode cX8_talks 128 = .ok (.istore 8, 2) := by decide +kernel
theorem dX8_talks_130 : decode cX8_talks 130 = .ok (.iinc 9 (-1), 3) := by decide +kernel
theorem dX8_talks_133 : decode cX8_talks 133 = .ok (.goto (-37), 3) := by decide +kernel
theorem dX8_talks_136 : decode cX8_talks 136 = .ok (.iload 6, 2) := by decide +kernel
theorem dX8_talks_138 : decode cX8_talks 138 = .ok (.ireturn, 1) := by decide +kernel
theorem dX8_talks_139 : decode cX8_talks 139 = .ok (.iinc 7 1, 3) := by decide +kernel
theorem dX8_talks_142 : decode cX8_talks 142 = .ok (.goto (-86), 3) := by decide +kernel
theorem dX8_talks_145 : decode cX8_talks 145 = .ok (.iload 5, 2) := by decide +kernel
theorem dX8_talks_147 : decode cX8_talks 147 = .ok (.aload_n 0, 1) := by decide +kernel
theorem dX8_talks_148 : decode cX8_talks 148 = .ok (.getfield 63, 3) := by decide +kernel
theorem dX8_talks_151 : decode cX8_talks 151 = .ok (.imul, 1) := by decide +kernel
theorem dX8_talks_152 : decode cX8_talks 152 = .ok (.istore 5, 2) := by decide +kernel
theorem dX8_talks_154 : decode cX8_talks 154 = .ok (.iinc 6 1, 3) := by decide +kernel
theorem dX8_talks_157 : decode cX8_talks 157 = .ok (.goto (-110), 3) := by decide +kernel
theorem dX8_talks_160 : decode cX8_talks 160 = .ok (.bipush (-9), 2) := by decide +kernel
theorem dX8_talks_162 : decode cX8_talks 162 = .ok (.ireturn, 1) := by decide +kernel
theorem dX8_isSo_0 : decode cX8_isSo 0 = .ok (.iconst 0, 1) := by decide +kernel
theorem dX8_isSo_1 : decode cX8_isSo 1 = .ok (.istore 4, 2) := by decide +kernel
theorem dX8_isSo_3 : decode cX8_isSo 3 = .ok (.iconst 0, 1) := by decide +kernel
theorem dX8_isSo_4 : decode cX8_isSo 4 = .ok (.istore 5, 2) := by decide +kernel
theorem dX8_isSo_6 : decode cX8_isSo 6 = .ok (.iload 5, 2) := by decide +kernel
theorem dX8_isSo_8 : decode cX8_isSo 8 = .ok (.aload_n 0, 1) := by decide +kernel
theorem dX8_isSo_9 : decode cX8_isSo 9 = .ok (.getfield 63, 3) := by decide +kernel
theorem dX8_isSo_12 : decode cX8_isSo 12 = .ok (.if_icmp .ge 34, 3) := by decide +kernel
theorem dX8_isSo_15 : decode cX8_isSo 15 = .ok (.iload 4, 2) := by decide +kernel
theorem dX8_isSo_17 : decode cX8_isSo 17 = .ok (.iload_n 1, 1) := by decide +kernel
theorem dX8_isSo_18 : decode cX8_isSo 18 = .ok (.iload 5, 2) := by decide +kernel
theorem dX8_isSo_20 : decode cX8_isSo 20 = .ok (.invokestatic 187, 3) := by decide +kernel
theorem dX8_isSo_23 : decode cX8_isSo 23 = .ok (.ifCond .eq 13, 3) := by decide +kernel
theorem dX8_isSo_26 : decode cX8_isSo 26 = .ok (.aload_n 0, 1) := by decide +kernel
theorem dX8_isSo_27 : decode cX8_isSo 27 = .ok (.iload 5, 2) := by decide +kernel
theorem dX8_isSo_29 : decode cX8_isSo 29 = .ok (.iload_n 2, 1) := by decide +kernel
theorem dX8_isSo_30 : decode cX8_isSo 30 = .ok (.invokevirtual 153, 3) := by decide +kernel
theorem dX8_isSo_33 : decode cX8_isSo 33 = .ok (.goto 4, 3) := by decide +kernel
theorem dX8_isSo_36 : decode cX8_isSo 36 = .ok (.iconst 0, 1) := by decide +kernel
theorem dX8_isSo_37 : decode cX8_isSo 37 = .ok (.iadd, 1) := by decide +kernel
theorem dX8_isSo_38 : decode cX8_isSo 38 = .ok (.istore 4, 2) := by decide +kernel
theorem dX8_isSo_40 : decode cX8_isSo 40 = .ok (.iinc 5 1, 3) := by decide +kernel
theorem dX8_isSo_43 : decode cX8_isSo 43 = .ok (.goto (-37), 3) := by decide +kernel
theorem dX8_isSo_46 : decode cX8_isSo 46 = .ok (.iload 4, 2) := by decide +kernel
theorem dX8_isSo_48 : decode cX8_isSo 48 = .ok (.iload_n 3, 1) := by decide +kernel
theorem dX8_isSo_49 : decode cX8_isSo 49 = .ok (.if_icmp .ne 7, 3) := by decide +kernel
theorem dX8_isSo_52 : decode cX8_isSo 52 = .ok (.iconst 1, 1) := by decide +kernel
theorem dX8_isSo_53 : decode cX8_isSo 53 = .ok (.goto 4, 3) := by decide +kernel
theorem dX8_isSo_56 : decode cX8_isSo 56 = .ok (.iconst 0, 1) := by decide +kernel
theorem dX8_isSo_57 : decode cX8_isSo 57 = .ok (.ireturn, 1) := by decide +kernel
theorem dX8_wrongSets_0 : decode cX8_wrongSets 0 = .ok (.iload_n 1, 1) := by decide +kernel
theorem dX8_wrongSets_1 : decode cX8_wrongSets 1 = .ok (.iconst 0, 1) := by decide +kernel
theorem dX8_wrongSets_2 : decode cX8_wrongSets 2 = .ok (.bipush 99, 2) := by decide +kernel
theorem dX8_wrongSets_4 : decode cX8_wrongSets 4 = .ok (.invokestatic 66, 3) := by decide +kernel
theorem dX8_wrongSets_7 : decode cX8_wrongSets 7 = .ok (.ifCond .eq 14, 3) := by decide +kernel
theorem dX8_wrongSets_10 : decode cX8_wrongSets 10 = .ok (.iload_n 2, 1) := by decide +kernel
theorem dX8_wrongSets_11 : decode cX8_wrongSets 11 = .ok (.iconst 0, 1) := by decide +kernel
theorem dX8_wrongSets_12 : decode cX8_wrongSets 12 = .ok (.sipush 594, 3) := by decide +kernel
theorem dX8_wrongSets_15 : decode cX8_wrongSets 15 = .ok (.invokestatic 66, 3) := by decide +kernel
theorem dX8_wrongSets_18 : decode cX8_wrongSets 18 = .ok (.ifCond .ne 7, 3) := by decide +kernel
theorem dX8_wrongSets_21 : decode cX8_wrongSets 21 = .ok (.iconst (-1), 1) := by decide +kernel
theorem dX8_wrongSets_22 : decode cX8_wrongSets 22 = .ok (.goto 16, 3) := by decide +kernel
theorem dX8_wrongSets_25 : decode cX8_wrongSets 25 = .ok (.aload_n 0, 1) := by decide +kernel
theorem dX8_wrongSets_26 : decode cX8_wrongSets 26 = .ok (.getfield 63, 3) := by decide +kernel
theorem dX8_wrongSets_29 : decode cX8_wrongSets 29 = .ok (.ifCond .ne 8, 3) := by decide +kernel
theorem dX8_wrongSets_32 : decode cX8_wrongSets 32 = .ok (.bipush (-4), 2) := by decide +kernel
theorem dX8_wrongSets_34 : decode cX8_wrongSets 34 = .ok (.goto 4, 3) := by decide +kernel
theorem dX8_wrongSets_37 : decode cX8_wrongSets 37 = .ok (.iconst 0, 1) := by decide +kernel
theorem dX8_wrongSets_38 : decode cX8_wrongSets 38 = .ok (.ireturn, 1) := by decide +kernel
theorem dX8_manyBy_0 : decode cX8_manyBy 0 = .ok (.iconst 0, 1) := by decide +kernel
theorem dX8_manyBy_1 : decode cX8_manyBy 1 = .ok (.istore 5, 2) := by decide +kernel
theorem dX8_manyBy_3 : decode cX8_manyBy 3 = .ok (.iconst 0, 1) := by decide +kernel
theorem dX8_manyBy_4 : decode cX8_manyBy 4 = .ok (.istore 6, 2) := by decide +kernel
theorem dX8_manyBy_6 : decode cX8_manyBy 6 = .ok (.iload 6, 2) := by decide +kernel
theorem dX8_manyBy_8 : decode cX8_manyBy 8 = .ok (.iconst 1, 1) := by decide +kernel
theorem dX8_manyBy_9 : decode cX8_manyBy 9 = .ok (.aload_n 0, 1) := by decide +kernel
theorem dX8_manyBy_10 : decode cX8_manyBy 10 = .ok (.getfield 63, 3) := by decide +kernel
theorem dX8_manyBy_13 : decode cX8_manyBy 13 = .ok (.ishl, 1) := by decide +kernel
theorem dX8_manyBy_14 : decode cX8_manyBy 14 = .ok (.if_icmp .ge 46, 3) := by decide +kernel
theorem dX8_manyBy_17 : decode cX8_manyBy 17 = .ok (.iload 5, 2) := by decide +kernel
theorem dX8_manyBy_19 : decode cX8_manyBy 19 = .ok (.iload 6, 2) := by decide +kernel
theorem dX8_manyBy_21 : decode cX8_manyBy 21 = .ok (.iload_n 3, 1) := by decide +kernel
theorem dX8_manyBy_22 : decode cX8_manyBy 22 = .ok (.iand, 1) := by decide +kernel
theorem dX8_manyBy_23 : decode cX8_manyBy 23 = .ok (.iload_n 3, 1) := by decide +kernel
theorem dX8_manyBy_24 : decode cX8_manyBy 24 = .ok (.if_icmp .ne 26, 3) := by decide +kernel
theorem dX8_manyBy_27 : decode cX8_manyBy 27 = .ok (.iload 6, 2) := by decide +kernel
theorem dX8_manyBy_29 : decode cX8_manyBy 29 = .ok (.iload 4, 2) := by decide +kernel
theorem dX8_manyBy_31 : decode cX8_manyBy 31 = .ok (.iand, 1) := by decide +kernel
theorem dX8_manyBy_32 : decode cX8_manyBy 32 = .ok (.ifCond .ne 18, 3) := by decide +kernel
theorem dX8_manyBy_35 : decode cX8_manyBy 35 = .ok (.aload_n 0, 1) := by decide +kernel
theorem dX8_manyBy_36 : decode cX8_manyBy 36 = .ok (.iload 6, 2) := by decide +kernel
theorem dX8_manyBy_38 : decode cX8_manyBy 38 = .ok (.iload_n 1, 1) := by decide +kernel
theorem dX8_manyBy_39 : decode cX8_manyBy 39 = .ok (.iload_n 2, 1) := by decide +kernel
theorem dX8_manyBy_40 : decode cX8_manyBy 40 = .ok (.invokevirtual 197, 3) := by decide +kernel
theorem dX8_manyBy_43 : decode cX8_manyBy 43 = .ok (.ifCond .eq 7, 3) := by decide +kernel
theorem dX8_manyBy_46 : decode cX8_manyBy 46 = .ok (.iconst 1, 1) := by decide +kernel
theorem dX8_manyBy_47 : decode cX8_manyBy 47 = .ok (.goto 4, 3) := by decide +kernel
theorem dX8_manyBy_50 : decode cX8_manyBy 50 = .ok (.iconst 0, 1) := by decide +kernel
theorem dX8_manyBy_51 : decode cX8_manyBy 51 = .ok (.iadd, 1) := by decide +kernel
theorem dX8_manyBy_52 : decode cX8_manyBy 52 = .ok (.istore 5, 2) := by decide +kernel
theorem dX8_manyBy_54 : decode cX8_manyBy 54 = .ok (.iinc 6 1, 3) := by decide +kernel
theorem dX8_manyBy_57 : decode cX8_manyBy 57 = .ok (.goto (-51), 3) := by decide +kernel
theorem dX8_manyBy_60 : decode cX8_manyBy 60 = .ok (.iload 5, 2) := by decide +kernel
theorem dX8_manyBy_62 : decode cX8_manyBy 62 = .ok (.ireturn, 1) := by decide +kernel
theorem dX8_sets_0 : decode cX8_sets 0 = .ok (.aload_n 0, 1) := by decide +kernel
theorem dX8_sets_1 : decode cX8_sets 1 = .ok (.iload_n 1, 1) := by decide +kernel
theorem dX8_sets_2 : decode cX8_sets 2 = .ok (.iload_n 2, 1) := by decide +kernel
theorem dX8_sets_3 : decode cX8_sets 3 = .ok (.invokevirtual 200, 3) := by decide +kernel
theorem dX8_sets_6 : decode cX8_sets 6 = .ok (.ifCond .eq 10, 3) := by decide +kernel
theorem dX8_sets_9 : decode cX8_sets 9 = .ok (.aload_n 0, 1) := by decide +kernel
theorem dX8_sets_10 : decode cX8_sets 10 = .ok (.iload_n 1, 1) := by decide +kernel
theorem dX8_sets_11 : decode cX8_sets 11 = .ok (.iload_n 2, 1) := by decide +kernel
theorem dX8_sets_12 : decode cX8_sets 12 = .ok (.invokevirtual 200, 3) := by decide +kernel
theorem dX8_sets_15 : decode cX8_sets 15 = .ok (.ireturn, 1) := by decide +kernel
theorem dX8_sets_16 : decode cX8_sets 16 = .ok (.bipush (-9), 2) := by decide +kernel
theorem dX8_sets_18 : decode cX8_sets 18 = .ok (.istore_n 3, 1) := by decide +kernel
theorem dX8_sets_19 : decode cX8_sets 19 = .ok (.iconst 1, 1) := by decide +kernel
theorem dX8_sets_20 : decode cX8_sets 20 = .ok (.aload_n 0, 1) := by decide +kernel
theorem dX8_sets_21 : decode cX8_sets 21 = .ok (.getfield 63, 3) := by decide +kernel
theorem dX8_sets_24 : decode cX8_sets 24 = .ok (.ishl, 1) := by decide +kernel
theorem dX8_sets_25 : decode cX8_sets 25 = .ok (.iconst 1, 1) := by decide +kernel
theorem dX8_sets_26 : decode cX8_sets 26 = .ok (.isub, 1) := by decide +kernel
theorem dX8_sets_27 : decode cX8_sets 27 = .ok (.istore 4, 2) := by decide +kernel
theorem dX8_sets_29 : decode cX8_sets 29 = .ok (.iload 4, 2) := by decide +kernel
theorem dX8_sets_31 : decode cX8_sets 31 = .ok (.ifCond .lt 27, 3) := by decide +kernel
theorem dX8_sets_34 : decode cX8_sets 34 = .ok (.aload_n 0, 1) := by decide +kernel
theorem dX8_sets_35 : decode cX8_sets 35 = .ok (.iload 4, 2) := by decide +kernel
theorem dX8_sets_37 : decode cX8_sets 37 = .ok (.iload_n 1, 1) := by decide +kernel
theorem dX8_sets_38 : decode cX8_sets 38 = .ok (.iload_n 2, 1) := by decide +kernel
theorem dX8_sets_39 : decode cX8_sets 39 = .ok (.invokevirtual 197, 3) := by decide +kernel
theorem dX8_sets_42 : decode cX8_sets 42 = .ok (.ifCond .eq 8, 3) := by decide +kernel
theorem dX8_sets_45 : decode cX8_sets 45 = .ok (.iload 4, 2) := by decide +kernel
theorem dX8_sets_47 : decode cX8_sets 47 = .ok (.goto 4, 3) := by decide +kernel
theorem dX8_sets_50 : decode cX8_sets 50 = .ok (.iload_n 3, 1) := by decide +kernel
theorem dX8_sets_51 : decode cX8_sets 51 = .ok (.istore_n 3, 1) := by decide +kernel
theorem dX8_sets_52 : decode cX8_sets 52 = .ok (.iinc 4 (-1), 3) := by decide +kernel
theorem dX8_sets_55 : decode cX8_sets 55 = .ok (.goto (-26), 3) := by decide +kernel
theorem dX8_sets_58 : decode cX8_sets 58 = .ok (.aload_n 0, 1) := by decide +kernel
theorem dX8_sets_59 : decode cX8_sets 59 = .ok (.aload_n 0, 1) := by decide +kernel
theorem dX8_sets_60 : decode cX8_sets 60 = .ok (.iload_n 1, 1) := by decide +kernel
theorem dX8_sets_61 : decode cX8_sets 61 = .ok (.iload_n 2, 1) := by decide +kernel
theorem dX8_sets_62 : decode cX8_sets 62 = .ok (.iconst 0, 1) := by decide +kernel
theorem dX8_sets_63 : decode cX8_sets 63 = .ok (.iconst 0, 1) := by decide +kernel
theorem dX8_sets_64 : decode cX8_sets 64 = .ok (.invokevirtual 203, 3) := by decide +kernel
theorem dX8_sets_67 : decode cX8_sets 67 = .ok (.i2l, 1) := by decide +kernel
theorem dX8_sets_68 : decode cX8_sets 68 = .ok (.putfield 207, 3) := by decide +kernel
theorem dX8_sets_71 : decode cX8_sets 71 = .ok (.aload_n 0, 1) := by decide +kernel
theorem dX8_sets_72 : decode cX8_sets 72 = .ok (.lconst 1, 1) := by decide +kernel
theorem dX8_sets_73 : decode cX8_sets 73 = .ok (.putfield 25, 3) := by decide +kernel
theorem dX8_sets_76 : decode cX8_sets 76 = .ok (.aload_n 0, 1) := by decide +kernel
theorem dX8_sets_77 : decode cX8_sets 77 = .ok (.iload_n 3, 1) := by decide +kernel
theorem dX8_sets_78 : decode cX8_sets 78 = .ok (.invokevirtual 81, 3) := by decide +kernel
theorem dX8_sets_81 : decode cX8_sets 81 = .ok (.ireturn, 1) := by decide +kernel
theorem dX8_sure_0 : decode cX8_sure 0 = .ok (.aload_n 0, 1) := by decide +kernel
theorem dX8_sure_1 : decode cX8_sure 1 = .ok (.iload_n 1, 1) := by decide +kernel
theorem dX8_sure_2 : decode cX8_sure 2 = .ok (.iload_n 2, 1) := by decide +kernel
theorem dX8_sure_3 : decode cX8_sure 3 = .ok (.invokevirtual 200, 3) := by decide +kernel
theorem dX8_sure_6 : decode cX8_sure 6 = .ok (.ifCond .eq 10, 3) := by decide +kernel
theorem dX8_sure_9 : decode cX8_sure 9 = .ok (.aload_n 0, 1) := by decide +kernel
theorem dX8_sure_10 : decode cX8_sure 10 = .ok (.iload_n 1, 1) := by decide +kernel
theorem dX8_sure_11 : decode cX8_sure 11 = .ok (.iload_n 2, 1) := by decide +kernel
theorem dX8_sure_12 : decode cX8_sure 12 = .ok (.invokevirtual 200, 3) := by decide +kernel
theorem dX8_sure_15 : decode cX8_sure 15 = .ok (.ireturn, 1) := by decide +kernel
theorem dX8_sure_16 : decode cX8_sure 16 = .ok (.aload_n 0, 1) := by decide +kernel
theorem dX8_sure_17 : decode cX8_sure 17 = .ok (.iload_n 1, 1) := by decide +kernel
theorem dX8_sure_18 : decode cX8_sure 18 = .ok (.iload_n 2, 1) := by decide +kernel
theorem dX8_sure_19 : decode cX8_sure 19 = .ok (.iconst 0, 1) := by decide +kernel
theorem dX8_sure_20 : decode cX8_sure 20 = .ok (.iconst 0, 1) := by decide +kernel
theorem dX8_sure_21 : decode cX8_sure 21 = .ok (.invokevirtual 203, 3) := by decide +kernel
theorem dX8_sure_24 : decode cX8_sure 24 = .ok (.istore_n 3, 1) := by decide +kernel
theorem dX8_sure_25 : decode cX8_sure 25 = .ok (.iload_n 3, 1) := by decide +kernel
theorem dX8_sure_26 : decode cX8_sure 26 = .ok (.ifCond .ne 9, 3) := by decide +kernel
theorem dX8_sure_29 : decode cX8_sure 29 = .ok (.aload_n 0, 1) := by decide +kernel
theorem dX8_sure_30 : decode cX8_sure 30 = .ok (.iconst 4, 1) := by decide +kernel
theorem dX8_sure_31 : decode cX8_sure 31 = .ok (.invokevirtual 73, 3) := by decide +kernel
theorem dX8_sure_34 : decode cX8_sure 34 = .ok (.ireturn, 1) := by decide +kernel
theorem dX8_sure_35 : decode cX8_sure 35 = .ok (.iconst 0, 1) := by decide +kernel
theorem dX8_sure_36 : decode cX8_sure 36 = .ok (.istore 4, 2) := by decide +kernel
theorem dX8_sure_38 : decode cX8_sure 38 = .ok (.iconst 0, 1) := by decide +kernel
theorem dX8_sure_39 : decode cX8_sure 39 = .ok (.istore 5, 2) := by decide +kernel
theorem dX8_sure_41 : decode cX8_sure 41 = .ok (.iconst 0, 1) := by decide +kernel
theorem dX8_sure_42 : decode cX8_sure 42 = .ok (.istore 6, 2) := by decide +kernel
theorem dX8_sure_44 : decode cX8_sure 44 = .ok (.iload 6, 2) := by decide +kernel
theorem dX8_sure_46 : decode cX8_sure 46 = .ok (.aload_n 0, 1) := by decide +kernel
theorem dX8_sure_47 : decode cX8_sure 47 = .ok (.getfield 63, 3) := by decide +kernel
theorem dX8_sure_50 : decode cX8_sure 50 = .ok (.if_icmp .ge 59, 3) := by decide +kernel
theorem dX8_sure_53 : decode cX8_sure 53 = .ok (.aload_n 0, 1) := by decide +kernel
theorem dX8_sure_54 : decode cX8_sure 54 = .ok (.iload_n 1, 1) := by decide +kernel
theorem dX8_sure_55 : decode cX8_sure 55 = .ok (.iload_n 2, 1) := by decide +kernel
theorem dX8_sure_56 : decode cX8_sure 56 = .ok (.iconst 1, 1) := by decide +kernel
theorem dX8_sure_57 : decode cX8_sure 57 = .ok (.iload 6, 2) := by decide +kernel
theorem dX8_sure_59 : decode cX8_sure 59 = .ok (.ishl, 1) := by decide +kernel
theorem dX8_sure_60 : decode cX8_sure 60 = .ok (.iconst 0, 1) := by decide +kernel
theorem dX8_sure_61 : decode cX8_sure 61 = .ok (.invokevirtual 203, 3) := by decide +kernel
theorem dX8_sure_64 : decode cX8_sure 64 = .ok (.istore 7, 2) := by decide +kernel
theorem dX8_sure_66 : decode cX8_sure 66 = .ok (.iload 4, 2) := by decide +kernel
theorem dX8_sure_68 : decode cX8_sure 68 = .ok (.iload 7, 2) := by decide +kernel
theorem dX8_sure_70 : decode cX8_sure 70 = .ok (.iload_n 3, 1) := by decide +kernel
theorem dX8_sure_71 : decode cX8_sure 71 = .ok (.if_icmp .ne 10, 3) := by decide +kernel
theorem dX8_sure_74 : decode cX8_sure 74 = .ok (.iconst 1, 1) := by decide +kernel
theorem dX8_sure_75 : decode cX8_sure 75 = .ok (.iload 6, 2) := by decide +kernel
theorem dX8_sure_77 : decode cX8_sure 77 = .ok (.ishl, 1) := by decide +kernel
theorem dX8_sure_78 : decode cX8_sure 78 = .ok (.goto 4, 3) := by decide +kernel
theorem dX8_sure_81 : decode cX8_sure 81 = .ok (.iconst 0, 1) := by decide +kernel
theorem dX8_sure_82 : decode cX8_sure 82 = .ok (.ior, 1) := by decide +kernel
theorem dX8_sure_83 : decode cX8_sure 83 = .ok (.istore 4, 2) := by decide +kernel
theorem dX8_sure_85 : decode cX8_sure 85 = .ok (.iload 5, 2) := by decide +kernel
theorem dX8_sure_87 : decode cX8_sure 87 = .ok (.iload 7, 2) := by decide +kernel
theorem dX8_sure_89 : decode cX8_sure 89 = .ok (.ifCond .ne 10, 3) := by decide +kernel
theorem dX8_sure_92 : decode cX8_sure 92 = .ok (.iconst 1, 1) := by decide +kernel
theorem dX8_sure_93 : decode cX8_sure 93 = .ok (.iload 6, 2) := by decide +kernel
theorem dX8_sure_95 : decode cX8_sure 95 = .ok (.ishl, 1) := by decide +kernel
theorem dX8_sure_96 : decode cX8_sure 96 = .ok (.goto 4, 3) := by decide +kernel
theorem dX8_sure_99 : decode cX8_sure 99 = .ok (.iconst 0, 1) := by decide +kernel
theorem dX8_sure_100 : decode cX8_sure 100 = .ok (.ior, 1) := by decide +kernel
theorem dX8_sure_101 : decode cX8_sure 101 = .ok (.istore 5, 2) := by decide +kernel
theorem dX8_sure_103 : decode cX8_sure 103 = .ok (.iinc 6 1, 3) := by decide +kernel
theorem dX8_sure_106 : decode cX8_sure 106 = .ok (.goto (-62), 3) := by decide +kernel
theorem dX8_sure_109 : decode cX8_sure 109 = .ok (.aload_n 0, 1) := by decide +kernel
theorem dX8_sure_110 : decode cX8_sure 110 = .ok (.iload 5, 2) := by decide +kernel
theorem dX8_sure_112 : decode cX8_sure 112 = .ok (.invokevirtual 81, 3) := by decide +kernel
theorem dX8_sure_115 : decode cX8_sure 115 = .ok (.pop, 1) := by decide +kernel
theorem dX8_sure_116 : decode cX8_sure 116 = .ok (.iload 4, 2) := by decide +kernel
theorem dX8_sure_118 : decode cX8_sure 118 = .ok (.ireturn, 1) := by decide +kernel
theorem dX8_ask_0 : decode cX8_ask 0 = .ok (.aload_n 0, 1) := by decide +kernel
theorem dX8_ask_1 : decode cX8_ask 1 = .ok (.iload_n 1, 1) := by decide +kernel
theorem dX8_ask_2 : decode cX8_ask 2 = .ok (.iload_n 2, 1) := by decide +kernel
theorem dX8_ask_3 : decode cX8_ask 3 = .ok (.invokevirtual 200, 3) := by decide +kernel
theorem dX8_ask_6 : decode cX8_ask 6 = .ok (.ifCond .eq 10, 3) := by decide +kernel
theorem dX8_ask_9 : decode cX8_ask 9 = .ok (.aload_n 0, 1) := by decide +kernel
theorem dX8_ask_10 : decode cX8_ask 10 = .ok (.iload_n 1, 1) := by decide +kernel
theorem dX8_ask_11 : decode cX8_ask 11 = .ok (.iload_n 2, 1) := by decide +kernel
theorem dX8_ask_12 : decode cX8_ask 12 = .ok (.invokevirtual 200, 3) := by decide +kernel
theorem dX8_ask_15 : decode cX8_ask 15 = .ok (.ireturn, 1) := by decide +kernel
theorem dX8_ask_16 : decode cX8_ask 16 = .ok (.aload_n 0, 1) := by decide +kernel
theorem dX8_ask_17 : decode cX8_ask 17 = .ok (.iload_n 1, 1) := by decide +kernel
theorem dX8_ask_18 : decode cX8_ask 18 = .ok (.iload_n 2, 1) := by decide +kernel
theorem dX8_ask_19 : decode cX8_ask 19 = .ok (.iconst 0, 1) := by decide +kernel
theorem dX8_ask_20 : decode cX8_ask 20 = .ok (.iconst 0, 1) := by decide +kernel
theorem dX8_ask_21 : decode cX8_ask 21 = .ok (.invokevirtual 203, 3) := by decide +kernel
theorem dX8_ask_24 : decode cX8_ask 24 = .ok (.istore_n 3, 1) := by decide +kernel
theorem dX8_ask_25 : decode cX8_ask 25 = .ok (.iload_n 3, 1) := by decide +kernel
theorem dX8_ask_26 : decode cX8_ask 26 = .ok (.ifCond .ne 9, 3) := by decide +kernel
theorem dX8_ask_29 : decode cX8_ask 29 = .ok (.aload_n 0, 1) := by decide +kernel
theorem dX8_ask_30 : decode cX8_ask 30 = .ok (.iconst 4, 1) := by decide +kernel
theorem dX8_ask_31 : decode cX8_ask 31 = .ok (.invokevirtual 73, 3) := by decide +kernel
theorem dX8_ask_34 : decode cX8_ask 34 = .ok (.ireturn, 1) := by decide +kernel
theorem dX8_ask_35 : decode cX8_ask 35 = .ok (.bipush (-9), 2) := by decide +kernel
theorem dX8_ask_37 : decode cX8_ask 37 = .ok (.istore 4, 2) := by decide +kernel
theorem dX8_ask_39 : decode cX8_ask 39 = .ok (.iconst 0, 1) := by decide +kernel
theorem dX8_ask_40 : decode cX8_ask 40 = .ok (.istore 5, 2) := by decide +kernel
theorem dX8_ask_42 : decode cX8_ask 42 = .ok (.iconst 0, 1) := by decide +kernel
theorem dX8_ask_43 : decode cX8_ask 43 = .ok (.istore 6, 2) := by decide +kernel
theorem dX8_ask_45 : decode cX8_ask 45 = .ok (.iload 6, 2) := by decide +kernel
theorem dX8_ask_47 : decode cX8_ask 47 = .ok (.aload_n 0, 1) := by decide +kernel
theorem dX8_ask_48 : decode cX8_ask 48 = .ok (.getfield 63, 3) := by decide +kernel
theorem dX8_ask_51 : decode cX8_ask 51 = .ok (.if_icmp .ge 91, 3) := by decide +kernel
theorem dX8_ask_54 : decode cX8_ask 54 = .ok (.aload_n 0, 1) := by decide +kernel
theorem dX8_ask_55 : decode cX8_ask 55 = .ok (.iload_n 1, 1) := by decide +kernel
theorem dX8_ask_56 : decode cX8_ask 56 = .ok (.iload_n 2, 1) := by decide +kernel
theorem dX8_ask_57 : decode cX8_ask 57 = .ok (.iconst 1, 1) := by decide +kernel
theorem dX8_ask_58 : decode cX8_ask 58 = .ok (.iload 6, 2) := by decide +kernel
theorem dX8_ask_60 : decode cX8_ask 60 = .ok (.ishl, 1) := by decide +kernel
theorem dX8_ask_61 : decode cX8_ask 61 = .ok (.iconst 0, 1) := by decide +kernel
theorem dX8_ask_62 : decode cX8_ask 62 = .ok (.invokevirtual 203, 3) := by decide +kernel
theorem dX8_ask_65 : decode cX8_ask 65 = .ok (.istore 7, 2) := by decide +kernel
theorem dX8_ask_67 : decode cX8_ask 67 = .ok (.iload 7, 2) := by decide +kernel
theorem dX8_ask_69 : decode cX8_ask 69 = .ok (.iload_n 3, 1) := by decide +kernel
theorem dX8_ask_70 : decode cX8_ask 70 = .ok (.iload 7, 2) := by decide +kernel
theorem dX8_ask_72 : decode cX8_ask 72 = .ok (.isub, 1) := by decide +kernel
theorem dX8_ask_73 : decode cX8_ask 73 = .ok (.if_icmp .le 8, 3) := by decide +kernel
theorem dX8_ask_76 : decode cX8_ask 76 = .ok (.iload 7, 2) := by decide +kernel
theorem dX8_ask_78 : decode cX8_ask 78 = .ok (.goto 7, 3) := by decide +kernel
theorem dX8_ask_81 : decode cX8_ask 81 = .ok (.iload_n 3, 1) := by decide +kernel
theorem dX8_ask_82 : decode cX8_ask 82 = .ok (.iload 7, 2) := by decide +kernel
theorem dX8_ask_84 : decode cX8_ask 84 = .ok (.isub, 1) := by decide +kernel
theorem dX8_ask_85 : decode cX8_ask 85 = .ok (.istore 8, 2) := by decide +kernel
theorem dX8_ask_87 : decode cX8_ask 87 = .ok (.iload 4, 2) := by decide +kernel
theorem dX8_ask_89 : decode cX8_ask 89 = .ok (.bipush (-9), 2) := by decide +kernel
theorem dX8_ask_91 : decode cX8_ask 91 = .ok (.if_icmp .eq 10, 3) := by decide +kernel
theorem dX8_ask_94 : decode cX8_ask 94 = .ok (.iload 8, 2) := by decide +kernel
theorem dX8_ask_96 : decode cX8_ask 96 = .ok (.iload 5, 2) := by decide +kernel
theorem dX8_ask_98 : decode cX8_ask 98 = .ok (.if_icmp .ge 7, 3) := by decide +kernel
theorem dX8_ask_101 : decode cX8_ask 101 = .ok (.iconst 1, 1) := by decide +kernel
theorem dX8_ask_102 : decode cX8_ask 102 = .ok (.goto 4, 3) := by decide +kernel
theorem dX8_ask_105 : decode cX8_ask 105 = .ok (.iconst 0, 1) := by decide +kernel
theorem dX8_ask_106 : decode cX8_ask 106 = .ok (.istore 9, 2) := by decide +kernel
theorem dX8_ask_108 : decode cX8_ask 108 = .ok (.iload 9, 2) := by decide +kernel
theorem dX8_ask_110 : decode cX8_ask 110 = .ok (.ifCond .eq 8, 3) := by decide +kernel
theorem dX8_ask_113 : decode cX8_ask 113 = .ok (.iload 6, 2) := by decide +kernel
theorem dX8_ask_115 : decode cX8_ask 115 = .ok (.goto 5, 3) := by decide +kernel
theorem dX8_ask_118 : decode cX8_ask 118 = .ok (.iload 4, 2) := by decide +kernel
theorem dX8_ask_120 : decode cX8_ask 120 = .ok (.istore 4, 2) := by decide +kernel
theorem dX8_ask_122 : decode cX8_ask 122 = .ok (.iload 9, 2) := by decide +kernel
theorem dX8_ask_124 : decode cX8_ask 124 = .ok (.ifCond .eq 8, 3) := by decide +kernel
theorem dX8_ask_127 : decode cX8_ask 127 = .ok (.iload 8, 2) := by decide +kernel
theorem dX8_ask_129 : decode cX8_ask 129 = .ok (.goto 5, 3) := by decide +kernel
theorem dX8_ask_132 : decode cX8_ask 132 = .ok (.iload 5, 2) := by decide +kernel
theorem dX8_ask_134 : decode cX8_ask 134 = .ok (.istore 5, 2) := by decide +kernel
theorem dX8_ask_136 : decode cX8_ask 136 = .ok (.iinc 6 1, 3) := by decide +kernel
theorem dX8_ask_139 : decode cX8_ask 139 = .ok (.goto (-94), 3) := by decide +kernel
theorem dX8_ask_142 : decode cX8_ask 142 = .ok (.aload_n 0, 1) := by decide +kernel
theorem dX8_ask_143 : decode cX8_ask 143 = .ok (.iload 5, 2) := by decide +kernel
theorem dX8_ask_145 : decode cX8_ask 145 = .ok (.invokevirtual 81, 3) := by decide +kernel
theorem dX8_ask_148 : decode cX8_ask 148 = .ok (.pop, 1) := by decide +kernel
theorem dX8_ask_149 : decode cX8_ask 149 = .ok (.iload 4, 2) := by decide +kernel
theorem dX8_ask_151 : decode cX8_ask 151 = .ok (.ireturn, 1) := by decide +kernel
theorem dX8_wrongPairs_0 : decode cX8_wrongPairs 0 = .ok (.aload_n 0, 1) := by decide +kernel
theorem dX8_wrongPairs_1 : decode cX8_wrongPairs 1 = .ok (.getfield 7, 3) := by decide +kernel
theorem dX8_wrongPairs_4 : decode cX8_wrongPairs 4 = .ok (.iload_n 1, 1) := by decide +kernel
theorem dX8_wrongPairs_5 : decode cX8_wrongPairs 5 = .ok (.iaload, 1) := by decide +kernel
theorem dX8_wrongPairs_6 : decode cX8_wrongPairs 6 = .ok (.ifCond .ge 9, 3) := by decide +kernel
theorem dX8_wrongPairs_9 : decode cX8_wrongPairs 9 = .ok (.aload_n 0, 1) := by decide +kernel
theorem dX8_wrongPairs_10 : decode cX8_wrongPairs 10 = .ok (.iconst 1, 1) := by decide +kernel
theorem dX8_wrongPairs_11 : decode cX8_wrongPairs 11 = .ok (.invokevirtual 73, 3) := by decide +kernel
theorem dX8_wrongPairs_14 : decode cX8_wrongPairs 14 = .ok (.ireturn, 1) := by decide +kernel
theorem dX8_wrongPairs_15 : decode cX8_wrongPairs 15 = .ok (.aload_n 0, 1) := by decide +kernel
theorem dX8_wrongPairs_16 : decode cX8_wrongPairs 16 = .ok (.getfield 7, 3) := by decide +kernel
theorem dX8_wrongPairs_19 : decode cX8_wrongPairs 19 = .ok (.iload_n 1, 1) := by decide +kernel
theorem dX8_wrongPairs_20 : decode cX8_wrongPairs 20 = .ok (.iaload, 1) := by decide +kernel
theorem dX8_wrongPairs_21 : decode cX8_wrongPairs 21 = .ok (.iconst 2, 1) := by decide +kernel
theorem dX8_wrongPairs_22 : decode cX8_wrongPairs 22 = .ok (.irem, 1) := by decide +kernel
theorem dX8_wrongPairs_23 : decode cX8_wrongPairs 23 = .ok (.iconst 1, 1) := by decide +kernel
theorem dX8_wrongPairs_24 : decode cX8_wrongPairs 24 = .ok (.if_icmp .eq 14, 3) := by decide +kernel
theorem dX8_wrongPairs_27 : decode cX8_wrongPairs 27 = .ok (.aload_n 0, 1) := by decide +kernel
theorem dX8_wrongPairs_28 : decode cX8_wrongPairs 28 = .ok (.getfield 7, 3) := by decide +kernel
theorem dX8_wrongPairs_31 : decode cX8_wrongPairs 31 = .ok (.iload_n 1, 1) := by decide +kernel
theorem dX8_wrongPairs_32 : decode cX8_wrongPairs 32 = .ok (.iaload, 1) := by decide +kernel
theorem dX8_wrongPairs_33 : decode cX8_wrongPairs 33 = .ok (.bipush 16, 2) := by decide +kernel
theorem dX8_wrongPairs_35 : decode cX8_wrongPairs 35 = .ok (.if_icmp .le 9, 3) := by decide +kernel
theorem dX8_wrongPairs_38 : decode cX8_wrongPairs 38 = .ok (.aload_n 0, 1) := by decide +kernel
theorem dX8_wrongPairs_39 : decode cX8_wrongPairs 39 = .ok (.iconst 5, 1) := by decide +kernel
theorem dX8_wrongPairs_40 : decode cX8_wrongPairs 40 = .ok (.invokevirtual 73, 3) := by decide +kernel
theorem dX8_wrongPairs_43 : decode cX8_wrongPairs 43 = .ok (.ireturn, 1) := by decide +kernel
theorem dX8_wrongPairs_44 : decode cX8_wrongPairs 44 = .ok (.iconst 1, 1) := by decide +kernel
theorem dX8_wrongPairs_45 : decode cX8_wrongPairs 45 = .ok (.istore_n 2, 1) := by decide +kernel
theorem dX8_wrongPairs_46 : decode cX8_wrongPairs 46 = .ok (.iconst 0, 1) := by decide +kernel
theorem dX8_wrongPairs_47 : decode cX8_wrongPairs 47 = .ok (.istore_n 3, 1) := by decide +kernel
theorem dX8_wrongPairs_48 : decode cX8_wrongPairs 48 = .ok (.iload_n 3, 1) := by decide +kernel
theorem dX8_wrongPairs_49 : decode cX8_wrongPairs 49 = .ok (.aload_n 0, 1) := by decide +kernel
theorem dX8_wrongPairs_50 : decode cX8_wrongPairs 50 = .ok (.getfield 7, 3) := by decide +kernel
theorem dX8_wrongPairs_53 : decode cX8_wrongPairs 53 = .ok (.iload_n 1, 1) := by decide +kernel
theorem dX8_wrongPairs_54 : decode cX8_wrongPairs 54 = .ok (.iaload, 1) := by decide +kernel
theorem dX8_wrongPairs_55 : decode cX8_wrongPairs 55 = .ok (.if_icmp .ge 39, 3) := by decide +kernel
theorem dX8_wrongPairs_58 : decode cX8_wrongPairs 58 = .ok (.iload_n 2, 1) := by decide +kernel
theorem dX8_wrongPairs_59 : decode cX8_wrongPairs 59 = .ok (.ifCond .eq 27, 3) := by decide +kernel
theorem dX8_wrongPairs_62 : decode cX8_wrongPairs 62 = .ok (.aload_n 0, 1) := by decide +kernel
theorem dX8_wrongPairs_63 : decode cX8_wrongPairs 63 = .ok (.getfield 13, 3) := by decide +kernel
theorem dX8_wrongPairs_66 : decode cX8_wrongPairs 66 = .ok (.bipush 40, 2) := by decide +kernel
theorem dX8_wrongPairs_68 : decode cX8_wrongPairs 68 = .ok (.iload_n 1, 1) := by decide +kernel
theorem dX8_wrongPairs_69 : decode cX8_wrongPairs 69 = .ok (.imul, 1) := by decide +kernel
theorem dX8_wrongPairs_70 : decode cX8_wrongPairs 70 = .ok (.iload_n 3, 1) := by decide +kernel
theorem dX8_wrongPairs_71 : decode cX8_wrongPairs 71 = .ok (.iadd, 1) := by decide +kernel
theorem dX8_wrongPairs_72 : decode cX8_wrongPairs 72 = .ok (.iaload, 1) := by decide +kernel
theorem dX8_wrongPairs_73 : decode cX8_wrongPairs 73 = .ok (.iconst 0, 1) := by decide +kernel
theorem dX8_wrongPairs_74 : decode cX8_wrongPairs 74 = .ok (.bipush 99, 2) := by decide +kernel
theorem dX8_wrongPairs_76 : decode cX8_wrongPairs 76 = .ok (.invokestatic 66, 3) := by decide +kernel
theorem dX8_wrongPairs_79 : decode cX8_wrongPairs 79 = .ok (.ifCond .eq 7, 3) := by decide +kernel
theorem dX8_wrongPairs_82 : decode cX8_wrongPairs 82 = .ok (.iconst 1, 1) := by decide +kernel
theorem dX8_wrongPairs_83 : decode cX8_wrongPairs 83 = .ok (.goto 4, 3) := by decide +kernel
theorem dX8_wrongPairs_86 : decode cX8_wrongPairs 86 = .ok (.iconst 0, 1) := by decide +kernel
theorem dX8_wrongPairs_87 : decode cX8_wrongPairs 87 = .ok (.istore_n 2, 1) := by decide +kernel
theorem dX8_wrongPairs_88 : decode cX8_wrongPairs 88 = .ok (.iinc 3 1, 3) := by decide +kernel
theorem dX8_wrongPairs_91 : decode cX8_wrongPairs 91 = .ok (.goto (-43), 3) := by decide +kernel
theorem dX8_wrongPairs_94 : decode cX8_wrongPairs 94 = .ok (.iload_n 2, 1) := by decide +kernel
theorem dX8_wrongPairs_95 : decode cX8_wrongPairs 95 = .ok (.ifCond .eq 7, 3) := by decide +kernel
theorem dX8_wrongPairs_98 : decode cX8_wrongPairs 98 = .ok (.iconst 0, 1) := by decide +kernel
theorem dX8_wrongPairs_99 : decode cX8_wrongPairs 99 = .ok (.goto 8, 3) := by decide +kernel
theorem dX8_wrongPairs_102 : decode cX8_wrongPairs 102 = .ok (.aload_n 0, 1) := by decide +kernel
