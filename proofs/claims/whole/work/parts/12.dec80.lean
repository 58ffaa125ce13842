theorem dX8_init_0 : decode cX8_init 0 = .ok (.aload_n 0, 1) := by decide +kernel
theorem dX8_init_1 : decode cX8_init 1 = .ok (.invokespecial 1, 3) := by decide +kernel
theorem dX8_init_4 : decode cX8_init 4 = .ok (.aload_n 0, 1) := by decide +kernel
theorem dX8_init_5 : decode cX8_init 5 = .ok (.bipush 6, 2) := by decide +kernel
theorem dX8_init_7 : decode cX8_init 7 = .ok (.newarray .int, 2) := by decide +kernel
theorem dX8_init_9 : decode cX8_init 9 = .ok (.putfield 7, 3) := by decide +kernel
theorem dX8_init_12 : decode cX8_init 12 = .ok (.aload_n 0, 1) := by decide +kernel
theorem dX8_init_13 : decode cX8_init 13 = .ok (.sipush 240, 3) := by decide +kernel
theorem dX8_init_16 : decode cX8_init 16 = .ok (.newarray .int, 2) := by decide +kernel
theorem dX8_init_18 : decode cX8_init 18 = .ok (.putfield 13, 3) := by decide +kernel
theorem dX8_init_21 : decode cX8_init 21 = .ok (.aload_n 0, 1) := by decide +kernel
theorem dX8_init_22 : decode cX8_init 22 = .ok (.iconst 4, 1) := by decide +kernel
theorem dX8_init_23 : decode cX8_init 23 = .ok (.newarray .int, 2) := by decide +kernel
theorem dX8_init_25 : decode cX8_init 25 = .ok (.putfield 16, 3) := by decide +kernel
theorem dX8_init_28 : decode cX8_init 28 = .ok (.aload_n 0, 1) := by decide +kernel
theorem dX8_init_29 : decode cX8_init 29 = .ok (.sipush 240, 3) := by decide +kernel
theorem dX8_init_32 : decode cX8_init 32 = .ok (.newarray .int, 2) := by decide +kernel
theorem dX8_init_34 : decode cX8_init 34 = .ok (.putfield 19, 3) := by decide +kernel
theorem dX8_init_37 : decode cX8_init 37 = .ok (.aload_n 0, 1) := by decide +kernel
theorem dX8_init_38 : decode cX8_init 38 = .ok (.bipush 6, 2) := by decide +kernel
theorem dX8_init_40 : decode cX8_init 40 = .ok (.newarray .int, 2) := by decide +kernel
theorem dX8_init_42 : decode cX8_init 42 = .ok (.putfield 22, 3) := by decide +kernel
theorem dX8_init_45 : decode cX8_init 45 = .ok (.aload_n 0, 1) := by decide +kernel
theorem dX8_init_46 : decode cX8_init 46 = .ok (.lconst 1, 1) := by decide +kernel
theorem dX8_init_47 : decode cX8_init 47 = .ok (.putfield 25, 3) := by decide +kernel
theorem dX8_init_50 : decode cX8_init 50 = .ok (.aload_n 0, 1) := by decide +kernel
theorem dX8_init_51 : decode cX8_init 51 = .ok (.bipush 12, 2) := by decide +kernel
theorem dX8_init_53 : decode cX8_init 53 = .ok (.newarray .int, 2) := by decide +kernel
theorem dX8_init_55 : decode cX8_init 55 = .ok (.putfield 29, 3) := by decide +kernel
theorem dX8_init_58 : decode cX8_init 58 = .ok (.aload_n 0, 1) := by decide +kernel
theorem dX8_init_59 : decode cX8_init 59 = .ok (.bipush 6, 2) := by decide +kernel
theorem dX8_init_61 : decode cX8_init 61 = .ok (.newarray .int, 2) := by decide +kernel
theorem dX8_init_63 : decode cX8_init 63 = .ok (.putfield 32, 3) := by decide +kernel
theorem dX8_init_66 : decode cX8_init 66 = .ok (.aload_n 0, 1) := by decide +kernel
theorem dX8_init_67 : decode cX8_init 67 = .ok (.bipush 6, 2) := by decide +kernel
theorem dX8_init_69 : decode cX8_init 69 = .ok (.newarray .int, 2) := by decide +kernel
theorem dX8_init_71 : decode cX8_init 71 = .ok (.putfield 35, 3) := by decide +kernel
theorem dX8_init_74 : decode cX8_init 74 = .ok (.aload_n 0, 1) := by decide +kernel
theorem dX8_init_75 : decode cX8_init 75 = .ok (.bipush 17, 2) := by decide +kernel
theorem dX8_init_77 : decode cX8_init 77 = .ok (.newarray .int, 2) := by decide +kernel
theorem dX8_init_79 : decode cX8_init 79 = .ok (.putfield 38, 3) := by decide +kernel
theorem dX8_init_82 : decode cX8_init 82 = .ok (.aload_n 0, 1) := by decide +kernel
theorem dX8_init_83 : decode cX8_init 83 = .ok (.bipush 17, 2) := by decide +kernel
theorem dX8_init_85 : decode cX8_init 85 = .ok (.newarray .int, 2) := by decide +kernel
theorem dX8_init_87 : decode cX8_init 87 = .ok (.putfield 41, 3) := by decide +kernel
theorem dX8_init_90 : decode cX8_init 90 = .ok (.aload_n 0, 1) := by decide +kernel
theorem dX8_init_91 : decode cX8_init 91 = .ok (.sipush 680, 3) := by decide +kernel
theorem dX8_init_94 : decode cX8_init 94 = .ok (.newarray .int, 2) := by decide +kernel
theorem dX8_init_96 : decode cX8_init 96 = .ok (.putfield 44, 3) := by decide +kernel
theorem dX8_init_99 : decode cX8_init 99 = .ok (.aload_n 0, 1) := by decide +kernel
theorem dX8_init_100 : decode cX8_init 100 = .ok (.bipush 51, 2) := by decide +kernel
theorem dX8_init_102 : decode cX8_init 102 = .ok (.newarray .int, 2) := by decide +kernel
theorem dX8_init_104 : decode cX8_init 104 = .ok (.putfield 47, 3) := by decide +kernel
theorem dX8_init_107 : decode cX8_init 107 = .ok (.aload_n 0, 1) := by decide +kernel
theorem dX8_init_108 : decode cX8_init 108 = .ok (.sipush 2040, 3) := by decide +kernel
theorem dX8_init_111 : decode cX8_init 111 = .ok (.newarray .int, 2) := by decide +kernel
theorem dX8_init_113 : decode cX8_init 113 = .ok (.putfield 50, 3) := by decide +kernel
theorem dX8_init_116 : decode cX8_init 116 = .ok (.aload_n 0, 1) := by decide +kernel
theorem dX8_init_117 : decode cX8_init 117 = .ok (.iconst 3, 1) := by decide +kernel
theorem dX8_init_118 : decode cX8_init 118 = .ok (.newarray .int, 2) := by decide +kernel
theorem dX8_init_120 : decode cX8_init 120 = .ok (.putfield 53, 3) := by decide +kernel
theorem dX8_init_123 : decode cX8_init 123 = .ok (.iconst 0, 1) := by decide +kernel
theorem dX8_init_124 : decode cX8_init 124 = .ok (.istore_n 1, 1) := by decide +kernel
theorem dX8_init_125 : decode cX8_init 125 = .ok (.iload_n 1, 1) := by decide +kernel
theorem dX8_init_126 : decode cX8_init 126 = .ok (.bipush 6, 2) := by decide +kernel
theorem dX8_init_128 : decode cX8_init 128 = .ok (.if_icmp .ge 16, 3) := by decide +kernel
theorem dX8_init_131 : decode cX8_init 131 = .ok (.aload_n 0, 1) := by decide +kernel
theorem dX8_init_132 : decode cX8_init 132 = .ok (.getfield 7, 3) := by decide +kernel
theorem dX8_init_135 : decode cX8_init 135 = .ok (.iload_n 1, 1) := by decide +kernel
theorem dX8_init_136 : decode cX8_init 136 = .ok (.iconst (-1), 1) := by decide +kernel
theorem dX8_init_137 : decode cX8_init 137 = .ok (.iastore, 1) := by decide +kernel
theorem dX8_init_138 : decode cX8_init 138 = .ok (.iinc 1 1, 3) := by decide +kernel
theorem dX8_init_141 : decode cX8_init 141 = .ok (.goto (-16), 3) := by decide +kernel
theorem dX8_init_144 : decode cX8_init 144 = .ok (.iconst 0, 1) := by decide +kernel
theorem dX8_init_145 : decode cX8_init 145 = .ok (.istore_n 1, 1) := by decide +kernel
theorem dX8_init_146 : decode cX8_init 146 = .ok (.iload_n 1, 1) := by decide +kernel
theorem dX8_init_147 : decode cX8_init 147 = .ok (.iconst 4, 1) := by decide +kernel
theorem dX8_init_148 : decode cX8_init 148 = .ok (.if_icmp .ge 16, 3) := by decide +kernel
theorem dX8_init_151 : decode cX8_init 151 = .ok (.aload_n 0, 1) := by decide +kernel
theorem dX8_init_152 : decode cX8_init 152 = .ok (.getfield 16, 3) := by decide +kernel
theorem dX8_init_155 : decode cX8_init 155 = .ok (.iload_n 1, 1) := by decide +kernel
theorem dX8_init_156 : decode cX8_init 156 = .ok (.iconst (-1), 1) := by decide +kernel
theorem dX8_init_157 : decode cX8_init 157 = .ok (.iastore, 1) := by decide +kernel
theorem dX8_init_158 : decode cX8_init 158 = .ok (.iinc 1 1, 3) := by decide +kernel
theorem dX8_init_161 : decode cX8_init 161 = .ok (.goto (-15), 3) := by decide +kernel
theorem dX8_init_164 : decode cX8_init 164 = .ok (.iconst 0, 1) := by decide +kernel
theorem dX8_init_165 : decode cX8_init 165 = .ok (.istore_n 1, 1) := by decide +kernel
theorem dX8_init_166 : decode cX8_init 166 = .ok (.iload_n 1, 1) := by decide +kernel
theorem dX8_init_167 : decode cX8_init 167 = .ok (.iconst 3, 1) := by decide +kernel
theorem dX8_init_168 : decode cX8_init 168 = .ok (.if_icmp .ge 16, 3) := by decide +kernel
theorem dX8_init_171 : decode cX8_init 171 = .ok (.aload_n 0, 1) := by decide +kernel
theorem dX8_init_172 : decode cX8_init 172 = .ok (.getfield 53, 3) := by decide +kernel
theorem dX8_init_175 : decode cX8_init 175 = .ok (.iload_n 1, 1) := by decide +kernel
theorem dX8_init_176 : decode cX8_init 176 = .ok (.iconst (-1), 1) := by decide +kernel
theorem dX8_init_177 : decode cX8_init 177 = .ok (.iastore, 1) := by decide +kernel
theorem dX8_init_178 : decode cX8_init 178 = .ok (.iinc 1 1, 3) := by decide +kernel
theorem dX8_init_181 : decode cX8_init 181 = .ok (.goto (-15), 3) := by decide +kernel
theorem dX8_init_184 : decode cX8_init 184 = .ok (.return_, 1) := by decide +kernel
theorem dX8_in_0 : decode cX8_in 0 = .ok (.iload_n 0, 1) := by decide +kernel
theorem dX8_in_1 : decode cX8_in 1 = .ok (.iload_n 1, 1) := by decide +kernel
theorem dX8_in_2 : decode cX8_in 2 = .ok (.if_icmp .lt 12, 3) := by decide +kernel
theorem dX8_in_5 : decode cX8_in 5 = .ok (.iload_n 0, 1) := by decide +kernel
theorem dX8_in_6 : decode cX8_in 6 = .ok (.iload_n 2, 1) := by decide +kernel
theorem dX8_in_7 : decode cX8_in 7 = .ok (.if_icmp .gt 7, 3) := by decide +kernel
theorem dX8_in_10 : decode cX8_in 10 = .ok (.iconst 1, 1) := by decide +kernel
theorem dX8_in_11 : decode cX8_in 11 = .ok (.goto 4, 3) := by decide +kernel
theorem dX8_in_14 : decode cX8_in 14 = .ok (.iconst 0, 1) := by decide +kernel
theorem dX8_in_15 : decode cX8_in 15 = .ok (.ireturn, 1) := by decide +kernel
theorem dX8_has_0 : decode cX8_has 0 = .ok (.iload_n 0, 1) := by decide +kernel
theorem dX8_has_1 : decode cX8_has 1 = .ok (.iload_n 1, 1) := by decide +kernel
theorem dX8_has_2 : decode cX8_has 2 = .ok (.ishr, 1) := by decide +kernel
theorem dX8_has_3 : decode cX8_has 3 = .ok (.iconst 1, 1) := by decide +kernel
theorem dX8_has_4 : decode cX8_has 4 = .ok (.iand, 1) := by decide +kernel
theorem dX8_has_5 : decode cX8_has 5 = .ok (.iconst 1, 1) := by decide +kernel
theorem dX8_has_6 : decode cX8_has 6 = .ok (.if_icmp .ne 7, 3) := by decide +kernel
theorem dX8_has_9 : decode cX8_has 9 = .ok (.iconst 1, 1) := by decide +kernel
theorem dX8_has_10 : decode cX8_has 10 = .ok (.goto 4, 3) := by decide +kernel
theorem dX8_has_13 : decode cX8_has 13 = .ok (.iconst 0, 1) := by decide +kernel
theorem dX8_has_14 : decode cX8_has 14 = .ok (.ireturn, 1) := by decide +kernel
theorem dX8_bits_0 : decode cX8_bits 0 = .ok (.iconst 0, 1) := by decide +kernel
theorem dX8_bits_1 : decode cX8_bits 1 = .ok (.istore_n 1, 1) := by decide +kernel
theorem dX8_bits_2 : decode cX8_bits 2 = .ok (.iconst 0, 1) := by decide +kernel
theorem dX8_bits_3 : decode cX8_bits 3 = .ok (.istore_n 2, 1) := by decide +kernel
theorem dX8_bits_4 : decode cX8_bits 4 = .ok (.iload_n 2, 1) := by decide +kernel
theorem dX8_bits_5 : decode cX8_bits 5 = .ok (.bipush 10, 2) := by decide +kernel
theorem dX8_bits_7 : decode cX8_bits 7 = .ok (.if_icmp .ge 17, 3) := by decide +kernel
theorem dX8_bits_10 : decode cX8_bits 10 = .ok (.iload_n 1, 1) := by decide +kernel
theorem dX8_bits_11 : decode cX8_bits 11 = .ok (.iload_n 0, 1) := by decide +kernel
theorem dX8_bits_12 : decode cX8_bits 12 = .ok (.iload_n 2, 1) := by decide +kernel
theorem dX8_bits_13 : decode cX8_bits 13 = .ok (.ishr, 1) := by decide +kernel
theorem dX8_bits_14 : decode cX8_bits 14 = .ok (.iconst 1, 1) := by decide +kernel
theorem dX8_bits_15 : decode cX8_bits 15 = .ok (.iand, 1) := by decide +kernel
theorem dX8_bits_16 : decode cX8_bits 16 = .ok (.iadd, 1) := by decide +kernel
theorem dX8_bits_17 : decode cX8_bits 17 = .ok (.istore_n 1, 1) := by decide +kernel
theorem dX8_bits_18 : decode cX8_bits 18 = .ok (.iinc 2 1, 3) := by decide +kernel
theorem dX8_bits_21 : decode cX8_bits 21 = .ok (.goto (-17), 3) := by decide +kernel
theorem dX8_bits_24 : decode cX8_bits 24 = .ok (.iload_n 1, 1) := by decide +kernel
theorem dX8_bits_25 : decode cX8_bits 25 = .ok (.ireturn, 1) := by decide +kernel
theorem dX8_finds_0 : decode cX8_finds 0 = .ok (.aload_n 0, 1) := by decide +kernel
theorem dX8_finds_1 : decode cX8_finds 1 = .ok (.iload_n 1, 1) := by decide +kernel
theorem dX8_finds_2 : decode cX8_finds 2 = .ok (.putfield 56, 3) := by decide +kernel
theorem dX8_finds_5 : decode cX8_finds 5 = .ok (.aload_n 0, 1) := by decide +kernel
theorem dX8_finds_6 : decode cX8_finds 6 = .ok (.getfield 22, 3) := by decide +kernel
theorem dX8_finds_9 : decode cX8_finds 9 = .ok (.iload_n 1, 1) := by decide +kernel
theorem dX8_finds_10 : decode cX8_finds 10 = .ok (.dup2, 1) := by decide +kernel
theorem dX8_finds_11 : decode cX8_finds 11 = .ok (.iaload, 1) := by decide +kernel
theorem dX8_finds_12 : decode cX8_finds 12 = .ok (.iconst 1, 1) := by decide +kernel
theorem dX8_finds_13 : decode cX8_finds 13 = .ok (.iadd, 1) := by decide +kernel
theorem dX8_finds_14 : decode cX8_finds 14 = .ok (.iastore, 1) := by decide +kernel
theorem dX8_finds_15 : decode cX8_finds 15 = .ok (.bipush (-3), 2) := by decide +kernel
theorem dX8_finds_17 : decode cX8_finds 17 = .ok (.ireturn, 1) := by decide +kernel
theorem dX8_tells_0 : decode cX8_tells 0 = .ok (.aload_n 0, 1) := by decide +kernel
theorem dX8_tells_1 : decode cX8_tells 1 = .ok (.iload_n 1, 1) := by decide +kernel
theorem dX8_tells_2 : decode cX8_tells 2 = .ok (.putfield 60, 3) := by decide +kernel
theorem dX8_tells_5 : decode cX8_tells 5 = .ok (.iconst 1, 1) := by decide +kernel
theorem dX8_tells_6 : decode cX8_tells 6 = .ok (.ireturn, 1) := by decide +kernel
theorem dX8_bring_0 : decode cX8_bring 0 = .ok (.iconst 0, 1) := by decide +kernel
theorem dX8_bring_1 : decode cX8_bring 1 = .ok (.istore 5, 2) := by decide +kernel
theorem dX8_bring_3 : decode cX8_bring 3 = .ok (.iload 5, 2) := by decide +kernel
theorem dX8_bring_5 : decode cX8_bring 5 = .ok (.iload 4, 2) := by decide +kernel
theorem dX8_bring_7 : decode cX8_bring 7 = .ok (.if_icmp .ge 21, 3) := by decide +kernel
theorem dX8_bring_10 : decode cX8_bring 10 = .ok (.aload_n 2, 1) := by decide +kernel
theorem dX8_bring_11 : decode cX8_bring 11 = .ok (.iload_n 3, 1) := by decide +kernel
theorem dX8_bring_12 : decode cX8_bring 12 = .ok (.iload 5, 2) := by decide +kernel
theorem dX8_bring_14 : decode cX8_bring 14 = .ok (.iadd, 1) := by decide +kernel
theorem dX8_bring_15 : decode cX8_bring 15 = .ok (.aload_n 0, 1) := by decide +kernel
theorem dX8_bring_16 : decode cX8_bring 16 = .ok (.iload_n 1, 1) := by decide +kernel
theorem dX8_bring_17 : decode cX8_bring 17 = .ok (.iload 5, 2) := by decide +kernel
theorem dX8_bring_19 : decode cX8_bring 19 = .ok (.iadd, 1) := by decide +kernel
theorem dX8_bring_20 : decode cX8_bring 20 = .ok (.iaload, 1) := by decide +kernel
theorem dX8_bring_21 : decode cX8_bring 21 = .ok (.iastore, 1) := by decide +kernel
theorem dX8_bring_22 : decode cX8_bring 22 = .ok (.iinc 5 1, 3) := by decide +kernel
theorem dX8_bring_25 : decode cX8_bring 25 = .ok (.goto (-22), 3) := by decide +kernel
theorem dX8_bring_28 : decode cX8_bring 28 = .ok (.return_, 1) := by decide +kernel
theorem dX8_isOne_0 : decode cX8_isOne 0 = .ok (.iload_n 1, 1) := by decide +kernel
theorem dX8_isOne_1 : decode cX8_isOne 1 = .ok (.iconst 0, 1) := by decide +kernel
theorem dX8_isOne_2 : decode cX8_isOne 2 = .ok (.aload_n 0, 1) := by decide +kernel
theorem dX8_isOne_3 : decode cX8_isOne 3 = .ok (.getfield 63, 3) := by decide +kernel
theorem dX8_isOne_6 : decode cX8_isOne 6 = .ok (.iconst 1, 1) := by decide +kernel
theorem dX8_isOne_7 : decode cX8_isOne 7 = .ok (.isub, 1) := by decide +kernel
theorem dX8_isOne_8 : decode cX8_isOne 8 = .ok (.invokestatic 66, 3) := by decide +kernel
theorem dX8_isOne_11 : decode cX8_isOne 11 = .ok (.ireturn, 1) := by decide +kernel
theorem dX8_isCell_0 : decode cX8_isCell 0 = .ok (.iload_n 1, 1) := by decide +kernel
theorem dX8_isCell_1 : decode cX8_isCell 1 = .ok (.iconst 0, 1) := by decide +kernel
theorem dX8_isCell_2 : decode cX8_isCell 2 = .ok (.aload_n 0, 1) := by decide +kernel
theorem dX8_isCell_3 : decode cX8_isCell 3 = .ok (.getfield 70, 3) := by decide +kernel
theorem dX8_isCell_6 : decode cX8_isCell 6 = .ok (.iconst 1, 1) := by decide +kernel
theorem dX8_isCell_7 : decode cX8_isCell 7 = .ok (.isub, 1) := by decide +kernel
theorem dX8_isCell_8 : decode cX8_isCell 8 = .ok (.invokestatic 66, 3) := by decide +kernel
theorem dX8_isCell_11 : decode cX8_isCell 11 = .ok (.ireturn, 1) := by decide +kernel
theorem dX8_row_0 : decode cX8_row 0 = .ok (.iload_n 1, 1) := by decide +kernel
theorem dX8_row_1 : decode cX8_row 1 = .ok (.iconst 0, 1) := by decide +kernel
theorem dX8_row_2 : decode cX8_row 2 = .ok (.iconst 5, 1) := by decide +kernel
theorem dX8_row_3 : decode cX8_row 3 = .ok (.invokestatic 66, 3) := by decide +kernel
theorem dX8_row_6 : decode cX8_row 6 = .ok (.ifCond .eq 9, 3) := by decide +kernel
theorem dX8_row_9 : decode cX8_row 9 = .ok (.iload_n 2, 1) := by decide +kernel
theorem dX8_row_10 : decode cX8_row 10 = .ok (.bipush 40, 2) := by decide +kernel
theorem dX8_row_12 : decode cX8_row 12 = .ok (.if_icmp .le 5, 3) := by decide +kernel
theorem dX8_row_15 : decode cX8_row 15 = .ok (.iconst (-1), 1) := by decide +kernel
theorem dX8_row_16 : decode cX8_row 16 = .ok (.ireturn, 1) := by decide +kernel
theorem dX8_row_17 : decode cX8_row 17 = .ok (.iload_n 2, 1) := by decide +kernel
theorem dX8_row_18 : decode cX8_row 18 = .ok (.ifCond .ge 9, 3) := by decide +kernel
theorem dX8_row_21 : decode cX8_row 21 = .ok (.aload_n 0, 1) := by decide +kernel
theorem dX8_row_22 : decode cX8_row 22 = .ok (.iconst 5, 1) := by decide +kernel
theorem dX8_row_23 : decode cX8_row 23 = .ok (.invokevirtual 73, 3) := by decide +kernel
theorem dX8_row_26 : decode cX8_row 26 = .ok (.ireturn, 1) := by decide +kernel
theorem dX8_row_27 : decode cX8_row 27 = .ok (.aload_n 0, 1) := by decide +kernel
theorem dX8_row_28 : decode cX8_row 28 = .ok (.getfield 7, 3) := by decide +kernel
theorem dX8_row_31 : decode cX8_row 31 = .ok (.iload_n 1, 1) := by decide +kernel
theorem dX8_row_32 : decode cX8_row 32 = .ok (.iload_n 2, 1) := by decide +kernel
theorem dX8_row_33 : decode cX8_row 33 = .ok (.iastore, 1) := by decide +kernel
theorem dX8_row_34 : decode cX8_row 34 = .ok (.iconst 0, 1) := by decide +kernel
theorem dX8_row_35 : decode cX8_row 35 = .ok (.istore_n 3, 1) := by decide +kernel
theorem dX8_row_36 : decode cX8_row 36 = .ok (.iload_n 3, 1) := by decide +kernel
theorem dX8_row_37 : decode cX8_row 37 = .ok (.bipush 40, 2) := by decide +kernel
theorem dX8_row_39 : decode cX8_row 39 = .ok (.if_icmp .ge 21, 3) := by decide +kernel
theorem dX8_row_42 : decode cX8_row 42 = .ok (.aload_n 0, 1) := by decide +kernel
theorem dX8_row_43 : decode cX8_row 43 = .ok (.getfield 13, 3) := by decide +kernel
theorem dX8_row_46 : decode cX8_row 46 = .ok (.bipush 40, 2) := by decide +kernel
theorem dX8_row_48 : decode cX8_row 48 = .ok (.iload_n 1, 1) := by decide +kernel
theorem dX8_row_49 : decode cX8_row 49 = .ok (.imul, 1) := by decide +kernel
theorem dX8_row_50 : decode cX8_row 50 = .ok (.iload_n 3, 1) := by decide +kernel
theorem dX8_row_51 : decode cX8_row 51 = .ok (.iadd, 1) := by decide +kernel
theorem dX8_row_52 : decode cX8_row 52 = .ok (.iconst 0, 1) := by decide +kernel
theorem dX8_row_53 : decode cX8_row 53 = .ok (.iastore, 1) := by decide +kernel
theorem dX8_row_54 : decode cX8_row 54 = .ok (.iinc 3 1, 3) := by decide +kernel
theorem dX8_row_57 : decode cX8_row 57 = .ok (.goto (-21), 3) := by decide +kernel
theorem dX8_row_60 : decode cX8_row 60 = .ok (.iload_n 2, 1) := by decide +kernel
theorem dX8_row_61 : decode cX8_row 61 = .ok (.ireturn, 1) := by decide +kernel
theorem dX8_wrongAt_0 : decode cX8_wrongAt 0 = .ok (.iload_n 1, 1) := by decide +kernel
theorem dX8_wrongAt_1 : decode cX8_wrongAt 1 = .ok (.iconst 0, 1) := by decide +kernel
theorem dX8_wrongAt_2 : decode cX8_wrongAt 2 = .ok (.iconst 5, 1) := by decide +kernel
theorem dX8_wrongAt_3 : decode cX8_wrongAt 3 = .ok (.invokestatic 66, 3) := by decide +kernel
theorem dX8_wrongAt_6 : decode cX8_wrongAt 6 = .ok (.ifCond .ne 5, 3) := by decide +kernel
theorem dX8_wrongAt_9 : decode cX8_wrongAt 9 = .ok (.iconst (-1), 1) := by decide +kernel
theorem dX8_wrongAt_10 : decode cX8_wrongAt 10 = .ok (.ireturn, 1) := by decide +kernel
theorem dX8_wrongAt_11 : decode cX8_wrongAt 11 = .ok (.aload_n 0, 1) := by decide +kernel
theorem dX8_wrongAt_12 : decode cX8_wrongAt 12 = .ok (.getfield 7, 3) := by decide +kernel
theorem dX8_wrongAt_15 : decode cX8_wrongAt 15 = .ok (.iload_n 1, 1) := by decide +kernel
theorem dX8_wrongAt_16 : decode cX8_wrongAt 16 = .ok (.iaload, 1) := by decide +kernel
theorem dX8_wrongAt_17 : decode cX8_wrongAt 17 = .ok (.ifCond .ge 9, 3) := by decide +kernel
theorem dX8_wrongAt_20 : decode cX8_wrongAt 20 = .ok (.aload_n 0, 1) := by decide +kernel
theorem dX8_wrongAt_21 : decode cX8_wrongAt 21 = .ok (.iconst 1, 1) := by decide +kernel
theorem dX8_wrongAt_22 : decode cX8_wrongAt 22 = .ok (.invokevirtual 73, 3) := by decide +kernel
theorem dX8_wrongAt_25 : decode cX8_wrongAt 25 = .ok (.ireturn, 1) := by decide +kernel
theorem dX8_wrongAt_26 : decode cX8_wrongAt 26 = .ok (.iload_n 2, 1) := by decide +kernel
theorem dX8_wrongAt_27 : decode cX8_wrongAt 27 = .ok (.iconst 0, 1) := by decide +kernel
theorem dX8_wrongAt_28 : decode cX8_wrongAt 28 = .ok (.aload_n 0, 1) := by decide +kernel
theorem dX8_wrongAt_29 : decode cX8_wrongAt 29 = .ok (.getfield 7, 3) := by decide +kernel
theorem dX8_wrongAt_32 : decode cX8_wrongAt 32 = .ok (.iload_n 1, 1) := by decide +kernel
theorem dX8_wrongAt_33 : decode cX8_wrongAt 33 = .ok (.iaload, 1) := by decide +kernel
theorem dX8_wrongAt_34 : decode cX8_wrongAt 34 = .ok (.iconst 1, 1) := by decide +kernel
theorem dX8_wrongAt_35 : decode cX8_wrongAt 35 = .ok (.isub, 1) := by decide +kernel
theorem dX8_wrongAt_36 : decode cX8_wrongAt 36 = .ok (.invokestatic 66, 3) := by decide +kernel
theorem dX8_wrongAt_39 : decode cX8_wrongAt 39 = .ok (.ifCond .eq 7, 3) := by decide +kernel
theorem dX8_wrongAt_42 : decode cX8_wrongAt 42 = .ok (.iconst 0, 1) := by decide +kernel
theorem dX8_wrongAt_43 : decode cX8_wrongAt 43 = .ok (.goto 8, 3) := by decide +kernel
theorem dX8_wrongAt_46 : decode cX8_wrongAt 46 = .ok (.aload_n 0, 1) := by decide +kernel
theorem dX8_wrongAt_47 : decode cX8_wrongAt 47 = .ok (.iconst 2, 1) := by decide +kernel
theorem dX8_wrongAt_48 : decode cX8_wrongAt 48 = .ok (.invokevirtual 73, 3) := by decide +kernel
theorem dX8_wrongAt_51 : decode cX8_wrongAt 51 = .ok (.ireturn, 1) := by decide +kernel
theorem dX8_lay_0 : decode cX8_lay 0 = .ok (.aload_n 0, 1) := by decide +kernel
theorem dX8_lay_1 : decode cX8_lay 1 = .ok (.iload_n 1, 1) := by decide +kernel
theorem dX8_lay_2 : decode cX8_lay 2 = .ok (.iload_n 2, 1) := by decide +kernel
theorem dX8_lay_3 : decode cX8_lay 3 = .ok (.invokevirtual 77, 3) := by decide +kernel
theorem dX8_lay_6 : decode cX8_lay 6 = .ok (.istore 4, 2) := by decide +kernel
theorem dX8_lay_8 : decode cX8_lay 8 = .ok (.iload 4, 2) := by decide +kernel
theorem dX8_lay_10 : decode cX8_lay 10 = .ok (.ifCond .eq 6, 3) := by decide +kernel
theorem dX8_lay_13 : decode cX8_lay 13 = .ok (.iload 4, 2) := by decide +kernel
theorem dX8_lay_15 : decode cX8_lay 15 = .ok (.ireturn, 1) := by decide +kernel
theorem dX8_lay_16 : decode cX8_lay 16 = .ok (.aload_n 0, 1) := by decide +kernel
theorem dX8_lay_17 : decode cX8_lay 17 = .ok (.getfield 13, 3) := by decide +kernel
theorem dX8_lay_20 : decode cX8_lay 20 = .ok (.bipush 40, 2) := by decide +kernel
theorem dX8_lay_22 : decode cX8_lay 22 = .ok (.iload_n 1, 1) := by decide +kernel
theorem dX8_lay_23 : decode cX8_lay 23 = .ok (.imul, 1) := by decide +kernel
theorem dX8_lay_24 : decode cX8_lay 24 = .ok (.iload_n 2, 1) := by decide +kernel
theorem dX8_lay_25 : decode cX8_lay 25 = .ok (.iadd, 1) := by decide +kernel
theorem dX8_lay_26 : decode cX8_lay 26 = .ok (.iaload, 1) := by decide +kernel
theorem dX8_lay_27 : decode cX8_lay 27 = .ok (.istore 5, 2) := by decide +kernel
theorem dX8_lay_29 : decode cX8_lay 29 = .ok (.aload_n 0, 1) := by decide +kernel
theorem dX8_lay_30 : decode cX8_lay 30 = .ok (.getfield 13, 3) := by decide +kernel
theorem dX8_lay_33 : decode cX8_lay 33 = .ok (.bipush 40, 2) := by decide +kernel
theorem dX8_lay_35 : decode cX8_lay 35 = .ok (.iload_n 1, 1) := by decide +kernel
theorem dX8_lay_36 : decode cX8_lay 36 = .ok (.imul, 1) := by decide +kernel
theorem dX8_lay_37 : decode cX8_lay 37 = .ok (.iload_n 2, 1) := by decide +kernel
theorem dX8_lay_38 : decode cX8_lay 38 = .ok (.iadd, 1) := by decide +kernel
theorem dX8_lay_39 : decode cX8_lay 39 = .ok (.iload_n 3, 1) := by decide +kernel
theorem dX8_lay_40 : decode cX8_lay 40 = .ok (.iastore, 1) := by decide +kernel
theorem dX8_lay_41 : decode cX8_lay 41 = .ok (.aload_n 0, 1) := by decide +kernel
theorem dX8_lay_42 : decode cX8_lay 42 = .ok (.iload 5, 2) := by decide +kernel
theorem dX8_lay_44 : decode cX8_lay 44 = .ok (.invokevirtual 81, 3) := by decide +kernel
theorem dX8_lay_47 : decode cX8_lay 47 = .ok (.ireturn, 1) := by decide +kernel
theorem dX8_at_0 : decode cX8_at 0 = .ok (.aload_n 0, 1) := by decide +kernel
theorem dX8_at_1 : decode cX8_at 1 = .ok (.iload_n 1, 1) := by decide +kernel
theorem dX8_at_2 : decode cX8_at 2 = .ok (.iload_n 2, 1) := by decide +kernel
theorem dX8_at_3 : decode cX8_at 3 = .ok (.invokevirtual 77, 3) := by decide +kernel
theorem dX8_at_6 : decode cX8_at 6 = .ok (.istore_n 3, 1) := by decide +kernel
theorem dX8_at_7 : decode cX8_at 7 = .ok (.iload_n 3, 1) := by decide +kernel
theorem dX8_at_8 : decode cX8_at 8 = .ok (.ifCond .eq 7, 3) := by decide +kernel
theorem dX8_at_11 : decode cX8_at 11 = .ok (.iload_n 3, 1) := by decide +kernel
theorem dX8_at_12 : decode cX8_at 12 = .ok (.goto 18, 3) := by decide +kernel
theorem dX8_at_15 : decode cX8_at 15 = .ok (.aload_n 0, 1) := by decide +kernel
theorem dX8_at_16 : decode cX8_at 16 = .ok (.aload_n 0, 1) := by decide +kernel
theorem dX8_at_17 : decode cX8_at 17 = .ok (.getfield 13, 3) := by decide +kernel
theorem dX8_at_20 : decode cX8_at 20 = .ok (.bipush 40, 2) := by decide +kernel
theorem dX8_at_22 : decode cX8_at 22 = .ok (.iload_n 1, 1) := by decide +kernel
theorem dX8_at_23 : decode cX8_at 23 = .ok (.imul, 1) := by decide +kernel
theorem dX8_at_24 : decode cX8_at 24 = .ok (.iload_n 2, 1) := by decide +kernel
theorem dX8_at_25 : decode cX8_at 25 = .ok (.iadd, 1) := by decide +kernel
theorem dX8_at_26 : decode cX8_at 26 = .ok (.iaload, 1) := by decide +kernel
theorem dX8_at_27 : decode cX8_at 27 = .ok (.invokevirtual 81, 3) := by decide +kernel
theorem dX8_at_30 : decode cX8_at 30 = .ok (.ireturn, 1) := by decide +kernel
theorem dX8_tear_0 : decode cX8_tear 0 = .ok (.iload_n 1, 1) := by decide +kernel
theorem dX8_tear_1 : decode cX8_tear 1 = .ok (.iconst 0, 1) := by decide +kernel
theorem dX8_tear_2 : decode cX8_tear 2 = .ok (.iconst 5, 1) := by decide +kernel
theorem dX8_tear_3 : decode cX8_tear 3 = .ok (.invokestatic 66, 3) := by decide +kernel
theorem dX8_tear_6 : decode cX8_tear 6 = .ok (.ifCond .ne 5, 3) := by decide +kernel
theorem dX8_tear_9 : decode cX8_tear 9 = .ok (.iconst (-1), 1) := by decide +kernel
theorem dX8_tear_10 : decode cX8_tear 10 = .ok (.ireturn, 1) := by decide +kernel
theorem dX8_tear_11 : decode cX8_tear 11 = .ok (.aload_n 0, 1) := by decide +kernel
theorem dX8_tear_12 : decode cX8_tear 12 = .ok (.getfield 7, 3) := by decide +kernel
theorem dX8_tear_15 : decode cX8_tear 15 = .ok (.iload_n 1, 1) := by decide +kernel
theorem dX8_tear_16 : decode cX8_tear 16 = .ok (.iaload, 1) := by decide +kernel
theorem dX8_tear_17 : decode cX8_tear 17 = .ok (.ifCond .ge 9, 3) := by decide +kernel
theorem dX8_tear_20 : decode cX8_tear 20 = .ok (.aload_n 0, 1) := by decide +kernel
theorem dX8_tear_21 : decode cX8_tear 21 = .ok (.iconst 1, 1) := by decide +kernel
theorem dX8_tear_22 : decode cX8_tear 22 = .ok (.invokevirtual 73, 3) := by decide +kernel
theorem dX8_tear_25 : decode cX8_tear 25 = .ok (.ireturn, 1) := by decide +kernel
theorem dX8_tear_26 : decode cX8_tear 26 = .ok (.aload_n 0, 1) := by decide +kernel
theorem dX8_tear_27 : decode cX8_tear 27 = .ok (.getfield 7, 3) := by decide +kernel
theorem dX8_tear_30 : decode cX8_tear 30 = .ok (.iload_n 1, 1) := by decide +kernel
theorem dX8_tear_31 : decode cX8_tear 31 = .ok (.iconst (-1), 1) := by decide +kernel
theorem dX8_tear_32 : decode cX8_tear 32 = .ok (.iastore, 1) := by decide +kernel
theorem dX8_tear_33 : decode cX8_tear 33 = .ok (.iconst 1, 1) := by decide +kernel
theorem dX8_tear_34 : decode cX8_tear 34 = .ok (.ireturn, 1) := by decide +kernel
theorem dX8_isPart_0 : decode cX8_isPart 0 = .ok (.iload_n 0, 1) := by decide +kernel
theorem dX8_isPart_1 : decode cX8_isPart 1 = .ok (.ifCond .lt 19, 3) := by decide +kernel
theorem dX8_isPart_4 : decode cX8_isPart 4 = .ok (.iload_n 1, 1) := by decide +kernel
theorem dX8_isPart_5 : decode cX8_isPart 5 = .ok (.iload_n 2, 1) := by decide +kernel
theorem dX8_isPart_6 : decode cX8_isPart 6 = .ok (.if_icmp .gt 14, 3) := by decide +kernel
theorem dX8_isPart_9 : decode cX8_isPart 9 = .ok (.iload_n 0, 1) := by decide +kernel
theorem dX8_isPart_10 : decode cX8_isPart 10 = .ok (.iload_n 2, 1) := by decide +kernel
theorem dX8_isPart_11 : decode cX8_isPart 11 = .ok (.iload_n 1, 1) := by decide +kernel
theorem dX8_isPart_12 : decode cX8_isPart 12 = .ok (.isub, 1) := by decide +kernel
theorem dX8_isPart_13 : decode cX8_isPart 13 = .ok (.if_icmp .gt 7, 3) := by decide +kernel
theorem dX8_isPart_16 : decode cX8_isPart 16 = .ok (.iconst 1, 1) := by decide +kernel
theorem dX8_isPart_17 : decode cX8_isPart 17 = .ok (.goto 4, 3) := by decide +kernel
theorem dX8_isPart_20 : decode cX8_isPart 20 = .ok (.iconst 0, 1) := by decide +kernel
theorem dX8_isPart_21 : decode cX8_isPart 21 = .ok (.ireturn, 1) := by decide +kernel
theorem dX8_copy_0 : decode cX8_copy 0 = .ok (.iload_n 1, 1) := by decide +kernel
theorem dX8_copy_1 : decode cX8_copy 1 = .ok (.iconst 0, 1) := by decide +kernel
theorem dX8_copy_2 : decode cX8_copy 2 = .ok (.iconst 5, 1) := by decide +kernel
theorem dX8_copy_3 : decode cX8_copy 3 = .ok (.invokestatic 66, 3) := by decide +kernel
theorem dX8_copy_6 : decode cX8_copy 6 = .ok (.ifCond .eq 12, 3) := by decide +kernel
theorem dX8_copy_9 : decode cX8_copy 9 = .ok (.iload_n 3, 1) := by decide +kernel
theorem dX8_copy_10 : decode cX8_copy 10 = .ok (.iconst 0, 1) := by decide +kernel
theorem dX8_copy_11 : decode cX8_copy 11 = .ok (.iconst 5, 1) := by decide +kernel
theorem dX8_copy_12 : decode cX8_copy 12 = .ok (.invokestatic 66, 3) := by decide +kernel
theorem dX8_copy_15 : decode cX8_copy 15 = .ok (.ifCond .ne 5, 3) := by decide +kernel
theorem dX8_copy_18 : decode cX8_copy 18 = .ok (.iconst (-1), 1) := by decide +kernel
theorem dX8_copy_19 : decode cX8_copy 19 = .ok (.ireturn, 1) := by decide +kernel
theorem dX8_copy_20 : decode cX8_copy 20 = .ok (.iload 5, 2) := by decide +kernel
theorem dX8_copy_22 : decode cX8_copy 22 = .ok (.ifCond .ge 9, 3) := by decide +kernel
theorem dX8_copy_25 : decode cX8_copy 25 = .ok (.aload_n 0, 1) := by decide +kernel
theorem dX8_copy_26 : decode cX8_copy 26 = .ok (.iconst 5, 1) := by decide +kernel
theorem dX8_copy_27 : decode cX8_copy 27 = .ok (.invokevirtual 73, 3) := by decide +kernel
theorem dX8_copy_30 : decode cX8_copy 30 = .ok (.ireturn, 1) := by decide +kernel
theorem dX8_copy_31 : decode cX8_copy 31 = .ok (.aload_n 0, 1) := by decide +kernel
theorem dX8_copy_32 : decode cX8_copy 32 = .ok (.getfield 7, 3) := by decide +kernel
theorem dX8_copy_35 : decode cX8_copy 35 = .ok (.iload_n 1, 1) := by decide +kernel
theorem dX8_copy_36 : decode cX8_copy 36 = .ok (.iaload, 1) := by decide +kernel
theorem dX8_copy_37 : decode cX8_copy 37 = .ok (.ifCond .lt 12, 3) := by decide +kernel
theorem dX8_copy_40 : decode cX8_copy 40 = .ok (.aload_n 0, 1) := by decide +kernel
theorem dX8_copy_41 : decode cX8_copy 41 = .ok (.getfield 7, 3) := by decide +kernel
theorem dX8_copy_44 : decode cX8_copy 44 = .ok (.iload_n 3, 1) := by decide +kernel
theorem dX8_copy_45 : decode cX8_copy 45 = .ok (.iaload, 1) := by decide +kernel
theorem dX8_copy_46 : decode cX8_copy 46 = .ok (.ifCond .ge 9, 3) := by decide +kernel
theorem dX8_copy_49 : decode cX8_copy 49 = .ok (.aload_n 0, 1) := by decide +kernel
theorem dX8_copy_50 : decode cX8_copy 50 = .ok (.iconst 1, 1) := by decide +kernel
theorem dX8_copy_51 : decode cX8_copy 51 = .ok (.invokevirtual 73, 3) := by decide +kernel
theorem dX8_copy_54 : decode cX8_copy 54 = .ok (.ireturn, 1) := by decide +kernel
theorem dX8_copy_55 : decode cX8_copy 55 = .ok (.iload_n 2, 1) := by decide +kernel
theorem dX8_copy_56 : decode cX8_copy 56 = .ok (.iload 5, 2) := by decide +kernel
theorem dX8_copy_58 : decode cX8_copy 58 = .ok (.aload_n 0, 1) := by decide +kernel
theorem dX8_copy_59 : decode cX8_copy 59 = .ok (.getfield 7, 3) := by decide +kernel
theorem dX8_copy_62 : decode cX8_copy 62 = .ok (.iload_n 1, 1) := by decide +kernel
theorem dX8_copy_63 : decode cX8_copy 63 = .ok (.iaload, 1) := by decide +kernel
theorem dX8_copy_64 : decode cX8_copy 64 = .ok (.invokestatic 84, 3) := by decide +kernel
theorem dX8_copy_67 : decode cX8_copy 67 = .ok (.ifCond .eq 19, 3) := by decide +kernel
theorem dX8_copy_70 : decode cX8_copy 70 = .ok (.iload 4, 2) := by decide +kernel
theorem dX8_copy_72 : decode cX8_copy 72 = .ok (.iload 5, 2) := by decide +kernel
theorem dX8_copy_74 : decode cX8_copy 74 = .ok (.aload_n 0, 1) := by decide +kernel
theorem dX8_copy_75 : decode cX8_copy 75 = .ok (.getfield 7, 3) := by decide +kernel
theorem dX8_copy_78 : decode cX8_copy 78 = .ok (.iload_n 3, 1) := by decide +kernel
theorem dX8_copy_79 : decode cX8_copy 79 = .ok (.iaload, 1) := by decide +kernel
theorem dX8_copy_80 : decode cX8_copy 80 = .ok (.invokestatic 84, 3) := by decide +kernel
theorem dX8_copy_83 : decode cX8_copy 83 = .ok (.ifCond .ne 9, 3) := by decide +kernel
theorem dX8_copy_86 : decode cX8_copy 86 = .ok (.aload_n 0, 1) := by decide +kernel
theorem dX8_copy_87 : decode cX8_copy 87 = .ok (.iconst 2, 1) := by decide +kernel
theorem dX8_copy_88 : decode cX8_copy 88 = .ok (.invokevirtual 73, 3) := by decide +kernel
theorem dX8_copy_91 : decode cX8_copy 91 = .ok (.ireturn, 1) := by decide +kernel
theorem dX8_copy_92 : decode cX8_copy 92 = .ok (.iload_n 1, 1) := by decide +kernel
theorem dX8_copy_93 : decode cX8_copy 93 = .ok (.iload_n 3, 1) := by decide +kernel
theorem dX8_copy_94 : decode cX8_copy 94 = .ok (.if_icmp .ne 13, 3) := by decide +kernel
theorem dX8_copy_97 : decode cX8_copy 97 = .ok (.iload 4, 2) := by decide +kernel
theorem dX8_copy_99 : decode cX8_copy 99 = .ok (.iload_n 2, 1) := by decide +kernel
theorem dX8_copy_100 : decode cX8_copy 100 = .ok (.if_icmp .le 7, 3) := by decide +kernel
theorem dX8_copy_103 : decode cX8_copy 103 = .ok (.iconst 1, 1) := by decide +kernel
theorem dX8_copy_104 : decode cX8_copy 104 = .ok (.goto 4, 3) := by decide +kernel
theorem dX8_copy_107 : decode cX8_copy 107 = .ok (.iconst 0, 1) := by decide +kernel
theorem dX8_copy_108 : decode cX8_copy 108 = .ok (.istore 6, 2) := by decide +kernel
theorem dX8_copy_110 : decode cX8_copy 110 = .ok (.iconst 0, 1) := by decide +kernel
theorem dX8_copy_111 : decode cX8_copy 111 = .ok (.istore 7, 2) := by decide +kernel
theorem dX8_copy_113 : decode cX8_copy 113 = .ok (.iload 7, 2) := by decide +kernel
theorem dX8_copy_115 : decode cX8_copy 115 = .ok (.iload 5, 2) := by decide +kernel
theorem dX8_copy_117 : decode cX8_copy 117 = .ok (.if_icmp .ge 57, 3) := by decide +kernel
theorem dX8_copy_120 : decode cX8_copy 120 = .ok (.iload 6, 2) := by decide +kernel
theorem dX8_copy_122 : decode cX8_copy 122 = .ok (.ifCond .eq 13, 3) := by decide +kernel
theorem dX8_copy_125 : decode cX8_copy 125 = .ok (.iload 5, 2) := by decide +kernel
theorem dX8_copy_127 : decode cX8_copy 127 = .ok (.iconst 1, 1) := by decide +kernel
theorem dX8_copy_128 : decode cX8_copy 128 = .ok (.isub, 1) := by decide +kernel
theorem dX8_copy_129 : decode cX8_copy 129 = .ok (.iload 7, 2) := by decide +kernel
theorem dX8_copy_131 : decode cX8_copy 131 = .ok (.isub, 1) := by decide +kernel
theorem dX8_copy_132 : decode cX8_copy 132 = .ok (.goto 5, 3) := by decide +kernel
theorem dX8_copy_135 : decode cX8_copy 135 = .ok (.iload 7, 2) := by decide +kernel
theorem dX8_copy_137 : decode cX8_copy 137 = .ok (.istore 8, 2) := by decide +kernel
theorem dX8_copy_139 : decode cX8_copy 139 = .ok (.aload_n 0, 1) := by decide +kernel
theorem dX8_copy_140 : decode cX8_copy 140 = .ok (.getfield 13, 3) := by decide +kernel
theorem dX8_copy_143 : decode cX8_copy 143 = .ok (.bipush 40, 2) := by decide +kernel
theorem dX8_copy_145 : decode cX8_copy 145 = .ok (.iload_n 3, 1) := by decide +kernel
theorem dX8_copy_146 : decode cX8_copy 146 = .ok (.imul, 1) := by decide +kernel
theorem dX8_copy_147 : decode cX8_copy 147 = .ok (.iload 4, 2) := by decide +kernel
theorem dX8_copy_149 : decode cX8_copy 149 = .ok (.iadd, 1) := by decide +kernel
theorem dX8_copy_150 : decode cX8_copy 150 = .ok (.iload 8, 2) := by decide +kernel
theorem dX8_copy_152 : decode cX8_copy 152 = .ok (.iadd, 1) := by decide +kernel
theorem dX8_copy_153 : decode cX8_copy 153 = .ok (.aload_n 0, 1) := by decide +kernel
theorem dX8_copy_154 : decode cX8_copy 154 = .ok (.getfield 13, 3) := by decide +kernel
theorem dX8_copy_157 : decode cX8_copy 157 = .ok (.bipush 40, 2) := by decide +kernel
theorem dX8_copy_159 : decode cX8_copy 159 = .ok (.iload_n 1, 1) := by decide +kernel
theorem dX8_copy_160 : decode cX8_copy 160 = .ok (.imul, 1) := by decide +kernel
theorem dX8_copy_161 : decode cX8_copy 161 = .ok (.iload_n 2, 1) := by decide +kernel
theorem dX8_copy_162 : decode cX8_copy 162 = .ok (.iadd, 1) := by decide +kernel
theorem dX8_copy_163 : decode cX8_copy 163 = .ok (.iload 8, 2) := by decide +kernel
theorem dX8_copy_165 : decode cX8_copy 165 = .ok (.iadd, 1) := by decide +kernel
theorem dX8_copy_166 : decode cX8_copy 166 = .ok (.iaload, 1) := by decide +kernel
theorem dX8_copy_167 : decode cX8_copy 167 = .ok (.iastore, 1) := by decide +kernel
theorem dX8_copy_168 : decode cX8_copy 168 = .ok (.iinc 7 1, 3) := by decide +kernel
theorem dX8_copy_171 : decode cX8_copy 171 = .ok (.goto (-58), 3) := by decide +kernel
theorem dX8_copy_174 : decode cX8_copy 174 = .ok (.iconst 1, 1) := by decide +kernel
theorem dX8_copy_175 : decode cX8_copy 175 = .ok (.ireturn, 1) := by decide +kernel
theorem dX8_mean_0 : decode cX8_mean 0 = .ok (.iload_n 1, 1) := by decide +kernel
theorem dX8_mean_1 : decode cX8_mean 1 = .ok (.iconst 0, 1) := by decide +kernel
theorem dX8_mean_2 : decode cX8_mean 2 = .ok (.iconst 5, 1) := by decide +kernel
theorem dX8_mean_3 : decode cX8_mean 3 = .ok (.invokestatic 66, 3) := by decide +kernel
theorem dX8_mean_6 : decode cX8_mean 6 = .ok (.ifCond .ne 5, 3) := by decide +kernel
theorem dX8_mean_9 : decode cX8_mean 9 = .ok (.iconst (-1), 1) := by decide +kernel
theorem dX8_mean_10 : decode cX8_mean 10 = .ok (.ireturn, 1) := by decide +kernel
theorem dX8_mean_11 : decode cX8_mean 11 = .ok (.aload_n 0, 1) := by decide +kernel
theorem dX8_mean_12 : decode cX8_mean 12 = .ok (.getfield 7, 3) := by decide +kernel
theorem dX8_mean_15 : decode cX8_mean 15 = .ok (.iload_n 1, 1) := by decide +kernel
theorem dX8_mean_16 : decode cX8_mean 16 = .ok (.iaload, 1) := by decide +kernel
theorem dX8_mean_17 : decode cX8_mean 17 = .ok (.ifCond .ge 9, 3) := by decide +kernel
theorem dX8_mean_20 : decode cX8_mean 20 = .ok (.aload_n 0, 1) := by decide +kernel
theorem dX8_mean_21 : decode cX8_mean 21 = .ok (.iconst 1, 1) := by decide +kernel
theorem dX8_mean_22 : decode cX8_mean 22 = .ok (.invokevirtual 73, 3) := by decide +kernel
theorem dX8_mean_25 : decode cX8_mean 25 = .ok (.ireturn, 1) := by decide +kernel
theorem dX8_mean_26 : decode cX8_mean 26 = .ok (.aload_n 0, 1) := by decide +kernel
theorem dX8_mean_27 : decode cX8_mean 27 = .ok (.getfield 7, 3) := by decide +kernel
theorem dX8_mean_30 : decode cX8_mean 30 = .ok (.iload_n 1, 1) := by decide +kernel
theorem dX8_mean_31 : decode cX8_mean 31 = .ok (.iaload, 1) := by decide +kernel
theorem dX8_mean_32 : decode cX8_mean 32 = .ok (.ifCond .ne 9, 3) := by decide +kernel
theorem dX8_mean_35 : decode cX8_mean 35 = .ok (.aload_n 0, 1) := by decide +kernel
theorem dX8_mean_36 : decode cX8_mean 36 = .ok (.iconst 4, 1) := by decide +kernel
theorem dX8_mean_37 : decode cX8_mean 37 = .ok (.invokevirtual 73, 3) := by decide +kernel
theorem dX8_mean_40 : decode cX8_mean 40 = .ok (.ireturn, 1) := by decide +kernel
theorem dX8_mean_41 : decode cX8_mean 41 = .ok (.lconst 0, 1) := by decide +kernel
theorem dX8_mean_42 : decode cX8_mean 42 = .ok (.lstore_n 2, 1) := by decide +kernel
theorem dX8_mean_43 : decode cX8_mean 43 = .ok (.iconst 0, 1) := by decide +kernel
theorem dX8_mean_44 : decode cX8_mean 44 = .ok (.istore 4, 2) := by decide +kernel
theorem dX8_mean_46 : decode cX8_mean 46 = .ok (.iload 4, 2) := by decide +kernel
theorem dX8_mean_48 : decode cX8_mean 48 = .ok (.aload_n 0, 1) := by decide +kernel
theorem dX8_mean_49 : decode cX8_mean 49 = .ok (.getfield 7, 3) := by decide +kernel
theorem dX8_mean_52 : decode cX8_mean 52 = .ok (.iload_n 1, 1) := by decide +kernel
theorem dX8_mean_53 : decode cX8_mean 53 = .ok (.iaload, 1) := by decide +kernel
theorem dX8_mean_54 : decode cX8_mean 54 = .ok (.if_icmp .ge 25, 3) := by decide +kernel
theorem dX8_mean_57 : decode cX8_mean 57 = .ok (.lload_n 2, 1) := by decide +kernel
theorem dX8_mean_58 : decode cX8_mean 58 = .ok (.aload_n 0, 1) := by decide +kernel
theorem dX8_mean_59 : decode cX8_mean 59 = .ok (.getfield 13, 3) := by decide +kernel
theorem dX8_mean_62 : decode cX8_mean 62 = .ok (.bipush 40, 2) := by decide +kernel
theorem dX8_mean_64 : decode cX8_mean 64 = .ok (.iload_n 1, 1) := by decide +kernel
theorem dX8_mean_65 : decode cX8_mean 65 = .ok (.imul, 1) := by decide +kernel
theorem dX8_mean_66 : decode cX8_mean 66 = .ok (.iload 4, 2) := by decide +kernel
theorem dX8_mean_68 : decode cX8_mean 68 = .ok (.iadd, 1) := by decide +kernel
theorem dX8_mean_69 : decode cX8_mean 69 = .ok (.iaload, 1) := by decide +kernel
theorem dX8_mean_70 : decode cX8_mean 70 = .ok (.i2l, 1) := by decide +kernel
theorem dX8_mean_71 : decode cX8_mean 71 = .ok (.ladd, 1) := by decide +kernel
theorem dX8_mean_72 : decode cX8_mean 72 = .ok (.lstore_n 2, 1) := by decide +kernel
theorem dX8_mean_73 : decode cX8_mean 73 = .ok (.iinc 4 1, 3) := by decide +kernel
theorem dX8_mean_76 : decode cX8_mean 76 = .ok (.goto (-30), 3) := by decide +kernel
theorem dX8_mean_79 : decode cX8_mean 79 = .ok (.aload_n 0, 1) := by decide +kernel
theorem dX8_mean_80 : decode cX8_mean 80 = .ok (.lload_n 2, 1) := by decide +kernel
theorem dX8_mean_81 : decode cX8_mean 81 = .ok (.aload_n 0, 1) := by decide +kernel
theorem dX8_mean_82 : decode cX8_mean 82 = .ok (.getfield 7, 3) := by decide +kernel
theorem dX8_mean_85 : decode cX8_mean 85 = .ok (.iload_n 1, 1) := by decide +kernel
theorem dX8_mean_86 : decode cX8_mean 86 = .ok (.iaload, 1) := by decide +kernel
theorem dX8_mean_87 : decode cX8_mean 87 = .ok (.i2l, 1) := by decide +kernel
theorem dX8_mean_88 : decode cX8_mean 88 = .ok (.ldiv, 1) := by decide +kernel
theorem dX8_mean_89 : decode cX8_mean 89 = .ok (.l2i, 1) := by decide +kernel
theorem dX8_mean_90 : decode cX8_mean 90 = .ok (.invokevirtual 81, 3) := by decide +kernel
theorem dX8_mean_93 : decode cX8_mean 93 = .ok (.ireturn, 1) := by decide +kernel
theorem dX8_text_0 : decode cX8_text 0 = .ok (.iload_n 1, 1) := by decide +kernel
theorem dX8_text_1 : decode cX8_text 1 = .ok (.iconst 0, 1) := by decide +kernel
theorem dX8_text_2 : decode cX8_text 2 = .ok (.iconst 3, 1) := by decide +kernel
theorem dX8_text_3 : decode cX8_text 3 = .ok (.invokestatic 66, 3) := by decide +kernel
theorem dX8_text_6 : decode cX8_text 6 = .ok (.ifCond .eq 9, 3) := by decide +kernel
theorem dX8_text_9 : decode cX8_text 9 = .ok (.iload_n 2, 1) := by decide +kernel
theorem dX8_text_10 : decode cX8_text 10 = .ok (.bipush 60, 2) := by decide +kernel
theorem dX8_text_12 : decode cX8_text 12 = .ok (.if_icmp .le 5, 3) := by decide +kernel
theorem dX8_text_15 : decode cX8_text 15 = .ok (.iconst (-1), 1) := by decide +kernel
theorem dX8_text_16 : decode cX8_text 16 = .ok (.ireturn, 1) := by decide +kernel
theorem dX8_text_17 : decode cX8_text 17 = .ok (.iload_n 2, 1) := by decide +kernel
theorem dX8_text_18 : decode cX8_text 18 = .ok (.ifCond .ge 9, 3) := by decide +kernel
theorem dX8_text_21 : decode cX8_text 21 = .ok (.aload_n 0, 1) := by decide +kernel
theorem dX8_text_22 : decode cX8_text 22 = .ok (.iconst 5, 1) := by decide +kernel
theorem dX8_text_23 : decode cX8_text 23 = .ok (.invokevirtual 73, 3) := by decide +kernel
theorem dX8_text_26 : decode cX8_text 26 = .ok (.ireturn, 1) := by decide +kernel
theorem dX8_text_27 : decode cX8_text 27 = .ok (.aload_n 0, 1) := by decide +kernel
theorem dX8_text_28 : decode cX8_text 28 = .ok (.getfield 16, 3) := by decide +kernel
theorem dX8_text_31 : decode cX8_text 31 = .ok (.iload_n 1, 1) := by decide +kernel
theorem dX8_text_32 : decode cX8_text 32 = .ok (.iload_n 2, 1) := by decide +kernel
theorem dX8_text_33 : decode cX8_text 33 = .ok (.iastore, 1) := by decide +kernel
theorem dX8_text_34 : decode cX8_text 34 = .ok (.iconst 0, 1) := by decide +kernel
theorem dX8_text_35 : decode cX8_text 35 = .ok (.istore_n 3, 1) := by decide +kernel
theorem dX8_text_36 : decode cX8_text 36 = .ok (.iload_n 3, 1) := by decide +kernel
theorem dX8_text_37 : decode cX8_text 37 = .ok (.bipush 60, 2) := by decide +kernel
theorem dX8_text_39 : decode cX8_text 39 = .ok (.if_icmp .ge 22, 3) := by decide +kernel
theorem dX8_text_42 : decode cX8_text 42 = .ok (.aload_n 0, 1) := by decide +kernel
theorem dX8_text_43 : decode cX8_text 43 = .ok (.getfield 19, 3) := by decide +kernel
theorem dX8_text_46 : decode cX8_text 46 = .ok (.bipush 60, 2) := by decide +kernel
theorem dX8_text_48 : decode cX8_text 48 = .ok (.iload_n 1, 1) := by decide +kernel
theorem dX8_text_49 : decode cX8_text 49 = .ok (.imul, 1) := by decide +kernel
theorem dX8_text_50 : decode cX8_text 50 = .ok (.iload_n 3, 1) := by decide +kernel
theorem dX8_text_51 : decode cX8_text 51 = .ok (.iadd, 1) := by decide +kernel
theorem dX8_text_52 : decode cX8_text 52 = .ok (.bipush 32, 2) := by decide +kernel
theorem dX8_text_54 : decode cX8_text 54 = .ok (.iastore, 1) := by decide +kernel
theorem dX8_text_55 : decode cX8_text 55 = .ok (.iinc 3 1, 3) := by decide +kernel
theorem dX8_text_58 : decode cX8_text 58 = .ok (.goto (-22), 3) := by decide +kernel
theorem dX8_text_61 : decode cX8_text 61 = .ok (.iload_n 2, 1) := by decide +kernel
theorem dX8_text_62 : decode cX8_text 62 = .ok (.ireturn, 1) := by decide +kernel
theorem dX8_put_0 : decode cX8_put 0 = .ok (.iload_n 1, 1) := by decide +kernel
theorem dX8_put_1 : decode cX8_put 1 = .ok (.iconst 0, 1) := by decide +kernel
theorem dX8_put_2 : decode cX8_put 2 = .ok (.iconst 3, 1) := by decide +kernel
theorem dX8_put_3 : decode cX8_put 3 = .ok (.invokestatic 66, 3) := by decide +kernel
theorem dX8_put_6 : decode cX8_put 6 = .ok (.ifCond .ne 5, 3) := by decide +kernel
theorem dX8_put_9 : decode cX8_put 9 = .ok (.iconst (-1), 1) := by decide +kernel
theorem dX8_put_10 : decode cX8_put 10 = .ok (.ireturn, 1) := by decide +kernel
theorem dX8_put_11 : decode cX8_put 11 = .ok (.aload_n 0, 1) := by decide +kernel
theorem dX8_put_12 : decode cX8_put 12 = .ok (.getfield 16, 3) := by decide +kernel
theorem dX8_put_15 : decode cX8_put 15 = .ok (.iload_n 1, 1) := by decide +kernel
theorem dX8_put_16 : decode cX8_put 16 = .ok (.iaload, 1) := by decide +kernel
theorem dX8_put_17 : decode cX8_put 17 = .ok (.ifCond .ge 9, 3) := by decide +kernel
theorem dX8_put_20 : decode cX8_put 20 = .ok (.aload_n 0, 1) := by decide +kernel
theorem dX8_put_21 : decode cX8_put 21 = .ok (.iconst 1, 1) := by decide +kernel
theorem dX8_put_22 : decode cX8_put 22 = .ok (.invokevirtual 73, 3) := by decide +kernel
theorem dX8_put_25 : decode cX8_put 25 = .ok (.ireturn, 1) := by decide +kernel
theorem dX8_put_26 : decode cX8_put 26 = .ok (.iload_n 2, 1) := by decide +kernel
theorem dX8_put_27 : decode cX8_put 27 = .ok (.iconst 0, 1) := by decide +kernel
theorem dX8_put_28 : decode cX8_put 28 = .ok (.aload_n 0, 1) := by decide +kernel
theorem dX8_put_29 : decode cX8_put 29 = .ok (.getfield 16, 3) := by decide +kernel
theorem dX8_put_32 : decode cX8_put 32 = .ok (.iload_n 1, 1) := by decide +kernel
theorem dX8_put_33 : decode cX8_put 33 = .ok (.iaload, 1) := by decide +kernel
theorem dX8_put_34 : decode cX8_put 34 = .ok (.iconst 1, 1) := by decide +kernel
theorem dX8_put_35 : decode cX8_put 35 = .ok (.isub, 1) := by decide +kernel
theorem dX8_put_36 : decode cX8_put 36 = .ok (.invokestatic 66, 3) := by decide +kernel
theorem dX8_put_39 : decode cX8_put 39 = .ok (.ifCond .ne 9, 3) := by decide +kernel
theorem dX8_put_42 : decode cX8_put 42 = .ok (.aload_n 0, 1) := by decide +kernel
theorem dX8_put_43 : decode cX8_put 43 = .ok (.iconst 2, 1) := by decide +kernel
theorem dX8_put_44 : decode cX8_put 44 = .ok (.invokevirtual 73, 3) := by decide +kernel
theorem dX8_put_47 : decode cX8_put 47 = .ok (.ireturn, 1) := by decide +kernel
theorem dX8_put_48 : decode cX8_put 48 = .ok (.aload_n 0, 1) := by decide +kernel
theorem dX8_put_49 : decode cX8_put 49 = .ok (.getfield 19, 3) := by decide +kernel
theorem dX8_put_52 : decode cX8_put 52 = .ok (.bipush 60, 2) := by decide +kernel
theorem dX8_put_54 : decode cX8_put 54 = .ok (.iload_n 1, 1) := by decide +kernel
theorem dX8_put_55 : decode cX8_put 55 = .ok (.imul, 1) := by decide +kernel
theorem dX8_put_56 : decode cX8_put 56 = .ok (.iload_n 2, 1) := by decide +kernel
theorem dX8_put_57 : decode cX8_put 57 = .ok (.iadd, 1) := by decide +kernel
theorem dX8_put_58 : decode cX8_put 58 = .ok (.iaload, 1) := by decide +kernel
theorem dX8_put_59 : decode cX8_put 59 = .ok (.istore 4, 2) := by decide +kernel
theorem dX8_put_61 : decode cX8_put 61 = .ok (.aload_n 0, 1) := by decide +kernel
theorem dX8_put_62 : decode cX8_put 62 = .ok (.getfield 19, 3) := by decide +kernel
theorem dX8_put_65 : decode cX8_put 65 = .ok (.bipush 60, 2) := by decide +kernel
theorem dX8_put_67 : decode cX8_put 67 = .ok (.iload_n 1, 1) := by decide +kernel
theorem dX8_put_68 : decode cX8_put 68 = .ok (.imul, 1) := by decide +kernel
theorem dX8_put_69 : decode cX8_put 69 = .ok (.iload_n 2, 1) := by decide +kernel
theorem dX8_put_70 : decode cX8_put 70 = .ok (.iadd, 1) := by decide +kernel
theorem dX8_put_71 : decode cX8_put 71 = .ok (.iload_n 3, 1) := by decide +kernel
theorem dX8_put_72 : decode cX8_put 72 = .ok (.i2b, 1) := by decide +kernel
theorem dX8_put_73 : decode cX8_put 73 = .ok (.iastore, 1) := by decide +kernel
theorem dX8_put_74 : decode cX8_put 74 = .ok (.iload 4, 2) := by decide +kernel
theorem dX8_put_76 : decode cX8_put 76 = .ok (.sipush 1000, 3) := by decide +kernel
theorem dX8_put_79 : decode cX8_put 79 = .ok (.iadd, 1) := by decide +kernel
theorem dX8_put_80 : decode cX8_put 80 = .ok (.ireturn, 1) := by decide +kernel
theorem dX8_letterAt_0 : decode cX8_letterAt 0 = .ok (.iload_n 1, 1) := by decide +kernel
theorem dX8_letterAt_1 : decode cX8_letterAt 1 = .ok (.aload_n 0, 1) := by decide +kernel
theorem dX8_letterAt_2 : decode cX8_letterAt 2 = .ok (.getfield 87, 3) := by decide +kernel
theorem dX8_letterAt_5 : decode cX8_letterAt 5 = .ok (.if_icmp .ge 17, 3) := by decide +kernel
theorem dX8_letterAt_8 : decode cX8_letterAt 8 = .ok (.aload_n 0, 1) := by decide +kernel
theorem dX8_letterAt_9 : decode cX8_letterAt 9 = .ok (.getfield 19, 3) := by decide +kernel
theorem dX8_letterAt_12 : decode cX8_letterAt 12 = .ok (.aload_n 0, 1) := by decide +kernel
theorem dX8_letterAt_13 : decode cX8_letterAt 13 = .ok (.getfield 90, 3) := by decide +kernel
theorem dX8_letterAt_16 : decode cX8_letterAt 16 = .ok (.iload_n 1, 1) := by decide +kernel
theorem dX8_letterAt_17 : decode cX8_letterAt 17 = .ok (.iadd, 1) := by decide +kernel
theorem dX8_letterAt_18 : decode cX8_letterAt 18 = .ok (.iaload, 1) := by decide +kernel
theorem dX8_letterAt_19 : decode cX8_letterAt 19 = .ok (.goto 6, 3) := by decide +kernel
theorem dX8_letterAt_22 : decode cX8_letterAt 22 = .ok (.sipush (-1000), 3) := by decide +kernel
theorem dX8_letterAt_25 : decode cX8_letterAt 25 = .ok (.ireturn, 1) := by decide +kernel
theorem dX8_figure_0 : decode cX8_figure 0 = .ok (.aload_n 0, 1) := by decide +kernel
theorem dX8_figure_1 : decode cX8_figure 1 = .ok (.aload_n 0, 1) := by decide +kernel
theorem dX8_figure_2 : decode cX8_figure 2 = .ok (.getfield 93, 3) := by decide +kernel
theorem dX8_figure_5 : decode cX8_figure 5 = .ok (.invokevirtual 96, 3) := by decide +kernel
theorem dX8_figure_8 : decode cX8_figure 8 = .ok (.bipush 48, 2) := by decide +kernel
theorem dX8_figure_10 : decode cX8_figure 10 = .ok (.isub, 1) := by decide +kernel
theorem dX8_figure_11 : decode cX8_figure 11 = .ok (.istore_n 3, 1) := by decide +kernel
theorem dX8_figure_12 : decode cX8_figure 12 = .ok (.iload_n 3, 1) := by decide +kernel
theorem dX8_figure_13 : decode cX8_figure 13 = .ok (.iload_n 1, 1) := by decide +kernel
theorem dX8_figure_14 : decode cX8_figure 14 = .ok (.iload_n 2, 1) := by decide +kernel
theorem dX8_figure_15 : decode cX8_figure 15 = .ok (.invokestatic 66, 3) := by decide +kernel
theorem dX8_figure_18 : decode cX8_figure 18 = .ok (.ifCond .ne 5, 3) := by decide +kernel
theorem dX8_figure_21 : decode cX8_figure 21 = .ok (.iconst (-1), 1) := by decide +kernel
theorem dX8_figure_22 : decode cX8_figure 22 = .ok (.ireturn, 1) := by decide +kernel
theorem dX8_figure_23 : decode cX8_figure 23 = .ok (.aload_n 0, 1) := by decide +kernel
theorem dX8_figure_24 : decode cX8_figure 24 = .ok (.dup, 1) := by decide +kernel
theorem dX8_figure_25 : decode cX8_figure 25 = .ok (.getfield 93, 3) := by decide +kernel
theorem dX8_figure_28 : decode cX8_figure 28 = .ok (.iconst 1, 1) := by decide +kernel
theorem dX8_figure_29 : decode cX8_figure 29 = .ok (.iadd, 1) := by decide +kernel
theorem dX8_figure_30 : decode cX8_figure 30 = .ok (.putfield 93, 3) := by decide +kernel
theorem dX8_figure_33 : decode cX8_figure 33 = .ok (.iload_n 3, 1) := by decide +kernel
theorem dX8_figure_34 : decode cX8_figure 34 = .ok (.ireturn, 1) := by decide +kernel
theorem dX8_skip_0 : decode cX8_skip 0 = .ok (.aload_n 0, 1) := by decide +kernel
theorem dX8_skip_1 : decode cX8_skip 1 = .ok (.aload_n 0, 1) := by decide +kernel
theorem dX8_skip_2 : decode cX8_skip 2 = .ok (.getfield 93, 3) := by decide +kernel
theorem dX8_skip_5 : decode cX8_skip 5 = .ok (.invokevirtual 96, 3) := by decide +kernel
theorem dX8_skip_8 : decode cX8_skip 8 = .ok (.bipush 32, 2) := by decide +kernel
theorem dX8_skip_10 : decode cX8_skip 10 = .ok (.if_icmp .ne 16, 3) := by decide +kernel
theorem dX8_skip_13 : decode cX8_skip 13 = .ok (.aload_n 0, 1) := by decide +kernel
theorem dX8_skip_14 : decode cX8_skip 14 = .ok (.dup, 1) := by decide +kernel
theorem dX8_skip_15 : decode cX8_skip 15 = .ok (.getfield 93, 3) := by decide +kernel
theorem dX8_skip_18 : decode cX8_skip 18 = .ok (.iconst 1, 1) := by decide +kernel
theorem dX8_skip_19 : decode cX8_skip 19 = .ok (.iadd, 1) := by decide +kernel
theorem dX8_skip_20 : decode cX8_skip 20 = .ok (.putfield 93, 3) := by decide +kernel
theorem dX8_skip_23 : decode cX8_skip 23 = .ok (.goto (-23), 3) := by decide +kernel
theorem dX8_skip_26 : decode cX8_skip 26 = .ok (.return_, 1) := by decide +kernel
theorem dX8_sortBy_0 : decode cX8_sortBy 0 = .ok (.iload_n 0, 1) := by decide +kernel
theorem dX8_sortBy_1 : decode cX8_sortBy 1 = .ok (.bipush 109, 2) := by decide +kernel
theorem dX8_sortBy_3 : decode cX8_sortBy 3 = .ok (.if_icmp .ne 7, 3) := by decide +kernel
theorem dX8_sortBy_6 : decode cX8_sortBy 6 = .ok (.iconst 0, 1) := by decide +kernel
theorem dX8_sortBy_7 : decode cX8_sortBy 7 = .ok (.goto 54, 3) := by decide +kernel
theorem dX8_sortBy_10 : decode cX8_sortBy 10 = .ok (.iload_n 0, 1) := by decide +kernel
theorem dX8_sortBy_11 : decode cX8_sortBy 11 = .ok (.bipush 98, 2) := by decide +kernel
theorem dX8_sortBy_13 : decode cX8_sortBy 13 = .ok (.if_icmp .ne 7, 3) := by decide +kernel
theorem dX8_sortBy_16 : decode cX8_sortBy 16 = .ok (.iconst 1, 1) := by decide +kernel
theorem dX8_sortBy_17 : decode cX8_sortBy 17 = .ok (.goto 44, 3) := by decide +kernel
theorem dX8_sortBy_20 : decode cX8_sortBy 20 = .ok (.iload_n 0, 1) := by decide +kernel
theorem dX8_sortBy_21 : decode cX8_sortBy 21 = .ok (.bipush 121, 2) := by decide +kernel
theorem dX8_sortBy_23 : decode cX8_sortBy 23 = .ok (.if_icmp .ne 7, 3) := by decide +kernel
theorem dX8_sortBy_26 : decode cX8_sortBy 26 = .ok (.iconst 2, 1) := by decide +kernel
theorem dX8_sortBy_27 : decode cX8_sortBy 27 = .ok (.goto 34, 3) := by decide +kernel
theorem dX8_sortBy_30 : decode cX8_sortBy 30 = .ok (.iload_n 0, 1) := by decide +kernel
theorem dX8_sortBy_31 : decode cX8_sortBy 31 = .ok (.bipush 102, 2) := by decide +kernel
theorem dX8_sortBy_33 : decode cX8_sortBy 33 = .ok (.if_icmp .ne 7, 3) := by decide +kernel
theorem dX8_sortBy_36 : decode cX8_sortBy 36 = .ok (.iconst 3, 1) := by decide +kernel
theorem dX8_sortBy_37 : decode cX8_sortBy 37 = .ok (.goto 24, 3) := by decide +kernel
theorem dX8_sortBy_40 : decode cX8_sortBy 40 = .ok (.iload_n 0, 1) := by decide +kernel
theorem dX8_sortBy_41 : decode cX8_sortBy 41 = .ok (.bipush 97, 2) := by decide +kernel
theorem dX8_sortBy_43 : decode cX8_sortBy 43 = .ok (.if_icmp .ne 7, 3) := by decide +kernel
theorem dX8_sortBy_46 : decode cX8_sortBy 46 = .ok (.iconst 4, 1) := by decide +kernel
theorem dX8_sortBy_47 : decode cX8_sortBy 47 = .ok (.goto 14, 3) := by decide +kernel
theorem dX8_sortBy_50 : decode cX8_sortBy 50 = .ok (.iload_n 0, 1) := by decide +kernel
theorem dX8_sortBy_51 : decode cX8_sortBy 51 = .ok (.bipush 118, 2) := by decide +kernel
theorem dX8_sortBy_53 : decode cX8_sortBy 53 = .ok (.if_icmp .ne 7, 3) := by decide +kernel
theorem dX8_sortBy_56 : decode cX8_sortBy 56 = .ok (.iconst 5, 1) := by decide +kernel
theorem dX8_sortBy_57 : decode cX8_sortBy 57 = .ok (.goto 4, 3) := by decide +kernel
theorem dX8_sortBy_60 : decode cX8_sortBy 60 = .ok (.iconst (-1), 1) := by decide +kernel
theorem dX8_sortBy_61 : decode cX8_sortBy 61 = .ok (.ireturn, 1) := by decide +kernel
theorem dX8_isCeiling_0 : decode cX8_isCeiling 0 = .ok (.aload_n 0, 1) := by decide +kernel
theorem dX8_isCeiling_1 : decode cX8_isCeiling 1 = .ok (.aload_n 0, 1) := by decide +kernel
theorem dX8_isCeiling_2 : decode cX8_isCeiling 2 = .ok (.getfield 93, 3) := by decide +kernel
theorem dX8_isCeiling_5 : decode cX8_isCeiling 5 = .ok (.invokevirtual 96, 3) := by decide +kernel
theorem dX8_isCeiling_8 : decode cX8_isCeiling 8 = .ok (.bipush 112, 2) := by decide +kernel
theorem dX8_isCeiling_10 : decode cX8_isCeiling 10 = .ok (.if_icmp .eq 5, 3) := by decide +kernel
theorem dX8_isCeiling_13 : decode cX8_isCeiling 13 = .ok (.iconst 0, 1) := by decide +kernel
theorem dX8_isCeiling_14 : decode cX8_isCeiling 14 = .ok (.ireturn, 1) := by decide +kernel
theorem dX8_isCeiling_15 : decode cX8_isCeiling 15 = .ok (.aload_n 0, 1) := by decide +kernel
theorem dX8_isCeiling_16 : decode cX8_isCeiling 16 = .ok (.dup, 1) := by decide +kernel
theorem dX8_isCeiling_17 : decode cX8_isCeiling 17 = .ok (.getfield 93, 3) := by decide +kernel
theorem dX8_isCeiling_20 : decode cX8_isCeiling 20 = .ok (.iconst 1, 1) := by decide +kernel
theorem dX8_isCeiling_21 : decode cX8_isCeiling 21 = .ok (.iadd, 1) := by decide +kernel
theorem dX8_isCeiling_22 : decode cX8_isCeiling 22 = .ok (.putfield 93, 3) := by decide +kernel
theorem dX8_isCeiling_25 : decode cX8_isCeiling 25 = .ok (.aload_n 0, 1) := by decide +kernel
theorem dX8_isCeiling_26 : decode cX8_isCeiling 26 = .ok (.aload_n 0, 1) := by decide +kernel
theorem dX8_isCeiling_27 : decode cX8_isCeiling 27 = .ok (.iconst 0, 1) := by decide +kernel
theorem dX8_isCeiling_28 : decode cX8_isCeiling 28 = .ok (.bipush 9, 2) := by decide +kernel
theorem dX8_isCeiling_30 : decode cX8_isCeiling 30 = .ok (.invokevirtual 99, 3) := by decide +kernel
theorem dX8_isCeiling_33 : decode cX8_isCeiling 33 = .ok (.putfield 102, 3) := by decide +kernel
theorem dX8_isCeiling_36 : decode cX8_isCeiling 36 = .ok (.aload_n 0, 1) := by decide +kernel
theorem dX8_isCeiling_37 : decode cX8_isCeiling 37 = .ok (.getfield 102, 3) := by decide +kernel
theorem dX8_isCeiling_40 : decode cX8_isCeiling 40 = .ok (.ifCond .ge 5, 3) := by decide +kernel
theorem dX8_isCeiling_43 : decode cX8_isCeiling 43 = .ok (.iconst 0, 1) := by decide +kernel
theorem dX8_isCeiling_44 : decode cX8_isCeiling 44 = .ok (.ireturn, 1) := by decide +kernel
theorem dX8_isCeiling_45 : decode cX8_isCeiling 45 = .ok (.aload_n 0, 1) := by decide +kernel
theorem dX8_isCeiling_46 : decode cX8_isCeiling 46 = .ok (.aload_n 0, 1) := by decide +kernel
theorem dX8_isCeiling_47 : decode cX8_isCeiling 47 = .ok (.iconst 3, 1) := by decide +kernel
theorem dX8_isCeiling_48 : decode cX8_isCeiling 48 = .ok (.bipush 8, 2) := by decide +kernel
theorem dX8_isCeiling_50 : decode cX8_isCeiling 50 = .ok (.invokevirtual 99, 3) := by decide +kernel
theorem dX8_isCeiling_53 : decode cX8_isCeiling 53 = .ok (.putfield 105, 3) := by decide +kernel
theorem dX8_isCeiling_56 : decode cX8_isCeiling 56 = .ok (.aload_n 0, 1) := by decide +kernel
theorem dX8_isCeiling_57 : decode cX8_isCeiling 57 = .ok (.getfield 105, 3) := by decide +kernel
theorem dX8_isCeiling_60 : decode cX8_isCeiling 60 = .ok (.ifCond .le 7, 3) := by decide +kernel
theorem dX8_isCeiling_63 : decode cX8_isCeiling 63 = .ok (.iconst 1, 1) := by decide +kernel
theorem dX8_isCeiling_64 : decode cX8_isCeiling 64 = .ok (.goto 4, 3) := by decide +kernel
theorem dX8_isCeiling_67 : decode cX8_isCeiling 67 = .ok (.iconst 0, 1) := by decide +kernel
theorem dX8_isCeiling_68 : decode cX8_isCeiling 68 = .ok (.ireturn, 1) := by decide +kernel
theorem dX8_isMemberItem_0 : decode cX8_isMemberItem 0 = .ok (.aload_n 0, 1) := by decide +kernel
theorem dX8_isMemberItem_1 : decode cX8_isMemberItem 1 = .ok (.aload_n 0, 1) := by decide +kernel
theorem dX8_isMemberItem_2 : decode cX8_isMemberItem 2 = .ok (.getfield 93, 3) := by decide +kernel
theorem dX8_isMemberItem_5 : decode cX8_isMemberItem 5 = .ok (.invokevirtual 96, 3) := by decide +kernel
theorem dX8_isMemberItem_8 : decode cX8_isMemberItem 8 = .ok (.invokestatic 108, 3) := by decide +kernel
theorem dX8_isMemberItem_11 : decode cX8_isMemberItem 11 = .ok (.istore_n 1, 1) := by decide +kernel
theorem dX8_isMemberItem_12 : decode cX8_isMemberItem 12 = .ok (.iload_n 1, 1) := by decide +kernel
theorem dX8_isMemberItem_13 : decode cX8_isMemberItem 13 = .ok (.ifCond .lt 12, 3) := by decide +kernel
theorem dX8_isMemberItem_16 : decode cX8_isMemberItem 16 = .ok (.aload_n 0, 1) := by decide +kernel
theorem dX8_isMemberItem_17 : decode cX8_isMemberItem 17 = .ok (.getfield 111, 3) := by decide +kernel
theorem dX8_isMemberItem_20 : decode cX8_isMemberItem 20 = .ok (.bipush 6, 2) := by decide +kernel
theorem dX8_isMemberItem_22 : decode cX8_isMemberItem 22 = .ok (.if_icmp .ne 5, 3) := by decide +kernel
theorem dX8_isMemberItem_25 : decode cX8_isMemberItem 25 = .ok (.iconst 0, 1) := by decide +kernel
theorem dX8_isMemberItem_26 : decode cX8_isMemberItem 26 = .ok (.ireturn, 1) := by decide +kernel
theorem dX8_isMemberItem_27 : decode cX8_isMemberItem 27 = .ok (.aload_n 0, 1) := by decide +kernel
theorem dX8_isMemberItem_28 : decode cX8_isMemberItem 28 = .ok (.dup, 1) := by decide +kernel
theorem dX8_isMemberItem_29 : decode cX8_isMemberItem 29 = .ok (.getfield 93, 3) := by decide +kernel
theorem dX8_isMemberItem_32 : decode cX8_isMemberItem 32 = .ok (.iconst 1, 1) := by decide +kernel
theorem dX8_isMemberItem_33 : decode cX8_isMemberItem 33 = .ok (.iadd, 1) := by decide +kernel
theorem dX8_isMemberItem_34 : decode cX8_isMemberItem 34 = .ok (.putfield 93, 3) := by decide +kernel
theorem dX8_isMemberItem_37 : decode cX8_isMemberItem 37 = .ok (.aload_n 0, 1) := by decide +kernel
theorem dX8_isMemberItem_38 : decode cX8_isMemberItem 38 = .ok (.iconst 0, 1) := by decide +kernel
theorem dX8_isMemberItem_39 : decode cX8_isMemberItem 39 = .ok (.aload_n 0, 1) := by decide +kernel
theorem dX8_isMemberItem_40 : decode cX8_isMemberItem 40 = .ok (.getfield 105, 3) := by decide +kernel
theorem dX8_isMemberItem_43 : decode cX8_isMemberItem 43 = .ok (.iconst 1, 1) := by decide +kernel
theorem dX8_isMemberItem_44 : decode cX8_isMemberItem 44 = .ok (.isub, 1) := by decide +kernel
theorem dX8_isMemberItem_45 : decode cX8_isMemberItem 45 = .ok (.invokevirtual 99, 3) := by decide +kernel
theorem dX8_isMemberItem_48 : decode cX8_isMemberItem 48 = .ok (.istore_n 2, 1) := by decide +kernel
theorem dX8_isMemberItem_49 : decode cX8_isMemberItem 49 = .ok (.iload_n 2, 1) := by decide +kernel
theorem dX8_isMemberItem_50 : decode cX8_isMemberItem 50 = .ok (.ifCond .ge 5, 3) := by decide +kernel
theorem dX8_isMemberItem_53 : decode cX8_isMemberItem 53 = .ok (.iconst 0, 1) := by decide +kernel
theorem dX8_isMemberItem_54 : decode cX8_isMemberItem 54 = .ok (.ireturn, 1) := by decide +kernel
theorem dX8_isMemberItem_55 : decode cX8_isMemberItem 55 = .ok (.aload_n 0, 1) := by decide +kernel
theorem dX8_isMemberItem_56 : decode cX8_isMemberItem 56 = .ok (.getfield 29, 3) := by decide +kernel
theorem dX8_isMemberItem_59 : decode cX8_isMemberItem 59 = .ok (.iconst 2, 1) := by decide +kernel
theorem dX8_isMemberItem_60 : decode cX8_isMemberItem 60 = .ok (.aload_n 0, 1) := by decide +kernel
theorem dX8_isMemberItem_61 : decode cX8_isMemberItem 61 = .ok (.getfield 111, 3) := by decide +kernel
theorem dX8_isMemberItem_64 : decode cX8_isMemberItem 64 = .ok (.imul, 1) := by decide +kernel
theorem dX8_isMemberItem_65 : decode cX8_isMemberItem 65 = .ok (.iload_n 1, 1) := by decide +kernel
theorem dX8_isMemberItem_66 : decode cX8_isMemberItem 66 = .ok (.iastore, 1) := by decide +kernel
theorem dX8_isMemberItem_67 : decode cX8_isMemberItem 67 = .ok (.aload_n 0, 1) := by decide +kernel
theorem dX8_isMemberItem_68 : decode cX8_isMemberItem 68 = .ok (.getfield 29, 3) := by decide +kernel
theorem dX8_isMemberItem_71 : decode cX8_isMemberItem 71 = .ok (.iconst 2, 1) := by decide +kernel
theorem dX8_isMemberItem_72 : decode cX8_isMemberItem 72 = .ok (.aload_n 0, 1) := by decide +kernel
theorem dX8_isMemberItem_73 : decode cX8_isMemberItem 73 = .ok (.getfield 111, 3) := by decide +kernel
theorem dX8_isMemberItem_76 : decode cX8_isMemberItem 76 = .ok (.imul, 1) := by decide +kernel
theorem dX8_isMemberItem_77 : decode cX8_isMemberItem 77 = .ok (.iconst 1, 1) := by decide +kernel
theorem dX8_isMemberItem_78 : decode cX8_isMemberItem 78 = .ok (.iadd, 1) := by decide +kernel
theorem dX8_isMemberItem_79 : decode cX8_isMemberItem 79 = .ok (.iload_n 2, 1) := by decide +kernel
theorem dX8_isMemberItem_80 : decode cX8_isMemberItem 80 = .ok (.iastore, 1) := by decide +kernel
theorem dX8_isMemberItem_81 : decode cX8_isMemberItem 81 = .ok (.aload_n 0, 1) := by decide +kernel
theorem dX8_isMemberItem_82 : decode cX8_isMemberItem 82 = .ok (.dup, 1) := by decide +kernel
theorem dX8_isMemberItem_83 : decode cX8_isMemberItem 83 = .ok (.getfield 111, 3) := by decide +kernel
theorem dX8_isMemberItem_86 : decode cX8_isMemberItem 86 = .ok (.iconst 1, 1) := by decide +kernel
theorem dX8_isMemberItem_87 : decode cX8_isMemberItem 87 = .ok (.iadd, 1) := by decide +kernel
theorem dX8_isMemberItem_88 : decode cX8_isMemberItem 88 = .ok (.putfield 111, 3) := by decide +kernel
theorem dX8_isMemberItem_91 : decode cX8_isMemberItem 91 = .ok (.iconst 1, 1) := by decide +kernel
theorem dX8_isMemberItem_92 : decode cX8_isMemberItem 92 = .ok (.ireturn, 1) := by decide +kernel
theorem dX8_read_0 : decode cX8_read 0 = .ok (.aload_n 0, 1) := by decide +kernel
theorem dX8_read_1 : decode cX8_read 1 = .ok (.bipush 60, 2) := by decide +kernel
theorem dX8_read_3 : decode cX8_read 3 = .ok (.iload_n 1, 1) := by decide +kernel
theorem dX8_read_4 : decode cX8_read 4 = .ok (.imul, 1) := by decide +kernel
theorem dX8_read_5 : decode cX8_read 5 = .ok (.putfield 90, 3) := by decide +kernel
theorem dX8_read_8 : decode cX8_read 8 = .ok (.aload_n 0, 1) := by decide +kernel
theorem dX8_read_9 : decode cX8_read 9 = .ok (.aload_n 0, 1) := by decide +kernel
theorem dX8_read_10 : decode cX8_read 10 = .ok (.getfield 16, 3) := by decide +kernel
theorem dX8_read_13 : decode cX8_read 13 = .ok (.iload_n 1, 1) := by decide +kernel
theorem dX8_read_14 : decode cX8_read 14 = .ok (.iaload, 1) := by decide +kernel
theorem dX8_read_15 : decode cX8_read 15 = .ok (.putfield 87, 3) := by decide +kernel
theorem dX8_read_18 : decode cX8_read 18 = .ok (.aload_n 0, 1) := by decide +kernel
theorem dX8_read_19 : decode cX8_read 19 = .ok (.iconst 0, 1) := by decide +kernel
theorem dX8_read_20 : decode cX8_read 20 = .ok (.putfield 93, 3) := by decide +kernel
theorem dX8_read_23 : decode cX8_read 23 = .ok (.aload_n 0, 1) := by decide +kernel
theorem dX8_read_24 : decode cX8_read 24 = .ok (.iconst 0, 1) := by decide +kernel
theorem dX8_read_25 : decode cX8_read 25 = .ok (.putfield 111, 3) := by decide +kernel
theorem dX8_read_28 : decode cX8_read 28 = .ok (.aload_n 0, 1) := by decide +kernel
theorem dX8_read_29 : decode cX8_read 29 = .ok (.invokevirtual 114, 3) := by decide +kernel
theorem dX8_read_32 : decode cX8_read 32 = .ok (.aload_n 0, 1) := by decide +kernel
theorem dX8_read_33 : decode cX8_read 33 = .ok (.invokevirtual 117, 3) := by decide +kernel
theorem dX8_read_36 : decode cX8_read 36 = .ok (.ifCond .ne 8, 3) := by decide +kernel
theorem dX8_read_39 : decode cX8_read 39 = .ok (.aload_n 0, 1) := by decide +kernel
theorem dX8_read_40 : decode cX8_read 40 = .ok (.getfield 93, 3) := by decide +kernel
theorem dX8_read_43 : decode cX8_read 43 = .ok (.ireturn, 1) := by decide +kernel
theorem dX8_read_44 : decode cX8_read 44 = .ok (.aload_n 0, 1) := by decide +kernel
theorem dX8_read_45 : decode cX8_read 45 = .ok (.invokevirtual 114, 3) := by decide +kernel
theorem dX8_read_48 : decode cX8_read 48 = .ok (.aload_n 0, 1) := by decide +kernel
theorem dX8_read_49 : decode cX8_read 49 = .ok (.getfield 93, 3) := by decide +kernel
theorem dX8_read_52 : decode cX8_read 52 = .ok (.aload_n 0, 1) := by decide +kernel
theorem dX8_read_53 : decode cX8_read 53 = .ok (.getfield 87, 3) := by decide +kernel
theorem dX8_read_56 : decode cX8_read 56 = .ok (.if_icmp .ge 22, 3) := by decide +kernel
theorem dX8_read_59 : decode cX8_read 59 = .ok (.aload_n 0, 1) := by decide +kernel
theorem dX8_read_60 : decode cX8_read 60 = .ok (.invokevirtual 121, 3) := by decide +kernel
theorem dX8_read_63 : decode cX8_read 63 = .ok (.ifCond .ne 8, 3) := by decide +kernel
theorem dX8_read_66 : decode cX8_read 66 = .ok (.aload_n 0, 1) := by decide +kernel
theorem dX8_read_67 : decode cX8_read 67 = .ok (.getfield 93, 3) := by decide +kernel
theorem dX8_read_70 : decode cX8_read 70 = .ok (.ireturn, 1) := by decide +kernel
theorem dX8_read_71 : decode cX8_read 71 = .ok (.aload_n 0, 1) := by decide +kernel
theorem dX8_read_72 : decode cX8_read 72 = .ok (.invokevirtual 114, 3) := by decide +kernel
theorem dX8_read_75 : decode cX8_read 75 = .ok (.goto (-27), 3) := by decide +kernel
theorem dX8_read_78 : decode cX8_read 78 = .ok (.aload_n 0, 1) := by decide +kernel
theorem dX8_read_79 : decode cX8_read 79 = .ok (.getfield 111, 3) := by decide +kernel
theorem dX8_read_82 : decode cX8_read 82 = .ok (.ifCond .ne 10, 3) := by decide +kernel
theorem dX8_read_85 : decode cX8_read 85 = .ok (.aload_n 0, 1) := by decide +kernel
theorem dX8_read_86 : decode cX8_read 86 = .ok (.getfield 87, 3) := by decide +kernel
theorem dX8_read_89 : decode cX8_read 89 = .ok (.goto 5, 3) := by decide +kernel
theorem dX8_read_92 : decode cX8_read 92 = .ok (.bipush (-9), 2) := by decide +kernel
theorem dX8_read_94 : decode cX8_read 94 = .ok (.ireturn, 1) := by decide +kernel
theorem dX8_fault_0 : decode cX8_fault 0 = .ok (.iload_n 1, 1) := by decide +kernel
theorem dX8_fault_1 : decode cX8_fault 1 = .ok (.iconst 0, 1) := by decide +kernel
theorem dX8_fault_2 : decode cX8_fault 2 = .ok (.iconst 3, 1) := by decide +kernel
theorem dX8_fault_3 : decode cX8_fault 3 = .ok (.invokestatic 66, 3) := by decide +kernel
theorem dX8_fault_6 : decode cX8_fault 6 = .ok (.ifCond .ne 5, 3) := by decide +kernel
theorem dX8_fault_9 : decode cX8_fault 9 = .ok (.iconst (-1), 1) := by decide +kernel
theorem dX8_fault_10 : decode cX8_fault 10 = .ok (.ireturn, 1) := by decide +kernel
theorem dX8_fault_11 : decode cX8_fault 11 = .ok (.aload_n 0, 1) := by decide +kernel
theorem dX8_fault_12 : decode cX8_fault 12 = .ok (.getfield 16, 3) := by decide +kernel
theorem dX8_fault_15 : decode cX8_fault 15 = .ok (.iload_n 1, 1) := by decide +kernel
theorem dX8_fault_16 : decode cX8_fault 16 = .ok (.iaload, 1) := by decide +kernel
theorem dX8_fault_17 : decode cX8_fault 17 = .ok (.ifCond .ge 11, 3) := by decide +kernel
theorem dX8_fault_20 : decode cX8_fault 20 = .ok (.aload_n 0, 1) := by decide +kernel
theorem dX8_fault_21 : decode cX8_fault 21 = .ok (.iconst 1, 1) := by decide +kernel
theorem dX8_fault_22 : decode cX8_fault 22 = .ok (.invokevirtual 73, 3) := by decide +kernel
theorem dX8_fault_25 : decode cX8_fault 25 = .ok (.goto 8, 3) := by decide +kernel
theorem dX8_fault_28 : decode cX8_fault 28 = .ok (.aload_n 0, 1) := by decide +kernel
theorem dX8_fault_29 : decode cX8_fault 29 = .ok (.iload_n 1, 1) := by decide +kernel
theorem dX8_fault_30 : decode cX8_fault 30 = .ok (.invokevirtual 124, 3) := by decide +kernel
theorem dX8_fault_33 : decode cX8_fault 33 = .ok (.ireturn, 1) := by decide +kernel
theorem dX8_club_0 : decode cX8_club 0 = .ok (.iload_n 1, 1) := by decide +kernel
theorem dX8_club_1 : decode cX8_club 1 = .ok (.iconst 0, 1) := by decide +kernel
theorem dX8_club_2 : decode cX8_club 2 = .ok (.iconst 3, 1) := by decide +kernel
theorem dX8_club_3 : decode cX8_club 3 = .ok (.invokestatic 66, 3) := by decide +kernel
theorem dX8_club_6 : decode cX8_club 6 = .ok (.ifCond .ne 5, 3) := by decide +kernel
theorem dX8_club_9 : decode cX8_club 9 = .ok (.iconst (-1), 1) := by decide +kernel
theorem dX8_club_10 : decode cX8_club 10 = .ok (.ireturn, 1) := by decide +kernel
theorem dX8_club_11 : decode cX8_club 11 = .ok (.aload_n 0, 1) := by decide +kernel
theorem dX8_club_12 : decode cX8_club 12 = .ok (.getfield 16, 3) := by decide +kernel
theorem dX8_club_15 : decode cX8_club 15 = .ok (.iload_n 1, 1) := by decide +kernel
theorem dX8_club_16 : decode cX8_club 16 = .ok (.iaload, 1) := by decide +kernel
theorem dX8_club_17 : decode cX8_club 17 = .ok (.ifCond .ge 9, 3) := by decide +kernel
theorem dX8_club_20 : decode cX8_club 20 = .ok (.aload_n 0, 1) := by decide +kernel
theorem dX8_club_21 : decode cX8_club 21 = .ok (.iconst 1, 1) := by decide +kernel
theorem dX8_club_22 : decode cX8_club 22 = .ok (.invokevirtual 73, 3) := by decide +kernel
theorem dX8_club_25 : decode cX8_club 25 = .ok (.ireturn, 1) := by decide +kernel
theorem dX8_club_26 : decode cX8_club 26 = .ok (.aload_n 0, 1) := by decide +kernel
theorem dX8_club_27 : decode cX8_club 27 = .ok (.iload_n 1, 1) := by decide +kernel
theorem dX8_club_28 : decode cX8_club 28 = .ok (.invokevirtual 124, 3) := by decide +kernel
theorem dX8_club_31 : decode cX8_club 31 = .ok (.bipush (-9), 2) := by decide +kernel
theorem dX8_club_33 : decode cX8_club 33 = .ok (.if_icmp .eq 6, 3) := by decide +kernel
theorem dX8_club_36 : decode cX8_club 36 = .ok (.bipush (-4), 2) := by decide +kernel
theorem dX8_club_38 : decode cX8_club 38 = .ok (.ireturn, 1) := by decide +kernel
theorem dX8_club_39 : decode cX8_club 39 = .ok (.iconst 0, 1) := by decide +kernel
theorem dX8_club_40 : decode cX8_club 40 = .ok (.istore_n 2, 1) := by decide +kernel
theorem dX8_club_41 : decode cX8_club 41 = .ok (.iload_n 2, 1) := by decide +kernel
theorem dX8_club_42 : decode cX8_club 42 = .ok (.bipush 17, 2) := by decide +kernel
theorem dX8_club_44 : decode cX8_club 44 = .ok (.if_icmp .ge 16, 3) := by decide +kernel
theorem dX8_club_47 : decode cX8_club 47 = .ok (.aload_n 0, 1) := by decide +kernel
theorem dX8_club_48 : decode cX8_club 48 = .ok (.getfield 38, 3) := by decide +kernel
theorem dX8_club_51 : decode cX8_club 51 = .ok (.iload_n 2, 1) := by decide +kernel
theorem dX8_club_52 : decode cX8_club 52 = .ok (.iconst 0, 1) := by decide +kernel
theorem dX8_club_53 : decode cX8_club 53 = .ok (.iastore, 1) := by decide +kernel
theorem dX8_club_54 : decode cX8_club 54 = .ok (.iinc 2 1, 3) := by decide +kernel
theorem dX8_club_57 : decode cX8_club 57 = .ok (.goto (-16), 3) := by decide +kernel
theorem dX8_club_60 : decode cX8_club 60 = .ok (.aload_n 0, 1) := by decide +kernel
theorem dX8_club_61 : decode cX8_club 61 = .ok (.aload_n 0, 1) := by decide +kernel
theorem dX8_club_62 : decode cX8_club 62 = .ok (.getfield 102, 3) := by decide +kernel
theorem dX8_club_65 : decode cX8_club 65 = .ok (.putfield 127, 3) := by decide +kernel
theorem dX8_club_68 : decode cX8_club 68 = .ok (.aload_n 0, 1) := by decide +kernel
theorem dX8_club_69 : decode cX8_club 69 = .ok (.aload_n 0, 1) := by decide +kernel
theorem dX8_club_70 : decode cX8_club 70 = .ok (.getfield 105, 3) := by decide +kernel
theorem dX8_club_73 : decode cX8_club 73 = .ok (.putfield 70, 3) := by decide +kernel
theorem dX8_club_76 : decode cX8_club 76 = .ok (.aload_n 0, 1) := by decide +kernel
theorem dX8_club_77 : decode cX8_club 77 = .ok (.aload_n 0, 1) := by decide +kernel
theorem dX8_club_78 : decode cX8_club 78 = .ok (.getfield 111, 3) := by decide +kernel
theorem dX8_club_81 : decode cX8_club 81 = .ok (.putfield 63, 3) := by decide +kernel
theorem dX8_club_84 : decode cX8_club 84 = .ok (.iconst 0, 1) := by decide +kernel
theorem dX8_club_85 : decode cX8_club 85 = .ok (.istore_n 2, 1) := by decide +kernel
theorem dX8_club_86 : decode cX8_club 86 = .ok (.iload_n 2, 1) := by decide +kernel
theorem dX8_club_87 : decode cX8_club 87 = .ok (.aload_n 0, 1) := by decide +kernel
theorem dX8_club_88 : decode cX8_club 88 = .ok (.getfield 63, 3) := by decide +kernel
theorem dX8_club_91 : decode cX8_club 91 = .ok (.if_icmp .ge 39, 3) := by decide +kernel
theorem dX8_club_94 : decode cX8_club 94 = .ok (.aload_n 0, 1) := by decide +kernel
theorem dX8_club_95 : decode cX8_club 95 = .ok (.getfield 32, 3) := by decide +kernel
theorem dX8_club_98 : decode cX8_club 98 = .ok (.iload_n 2, 1) := by decide +kernel
theorem dX8_club_99 : decode cX8_club 99 = .ok (.aload_n 0, 1) := by decide +kernel
theorem dX8_club_100 : decode cX8_club 100 = .ok (.getfield 29, 3) := by decide +kernel
theorem dX8_club_103 : decode cX8_club 103 = .ok (.iconst 2, 1) := by decide +kernel
theorem dX8_club_104 : decode cX8_club 104 = .ok (.iload_n 2, 1) := by decide +kernel
theorem dX8_club_105 : decode cX8_club 105 = .ok (.imul, 1) := by decide +kernel
theorem dX8_club_106 : decode cX8_club 106 = .ok (.iaload, 1) := by decide +kernel
theorem dX8_club_107 : decode cX8_club 107 = .ok (.iastore, 1) := by decide +kernel
theorem dX8_club_108 : decode cX8_club 108 = .ok (.aload_n 0, 1) := by decide +kernel
theorem dX8_club_109 : decode cX8_club 109 = .ok (.getfield 35, 3) := by decide +kernel
theorem dX8_club_112 : decode cX8_club 112 = .ok (.iload_n 2, 1) := by decide +kernel
theorem dX8_club_113 : decode cX8_club 113 = .ok (.aload_n 0, 1) := by decide +kernel
theorem dX8_club_114 : decode cX8_club 114 = .ok (.getfield 29, 3) := by decide +kernel
theorem dX8_club_117 : decode cX8_club 117 = .ok (.iconst 2, 1) := by decide +kernel
theorem dX8_club_118 : decode cX8_club 118 = .ok (.iload_n 2, 1) := by decide +kernel
theorem dX8_club_119 : decode cX8_club 119 = .ok (.imul, 1) := by decide +kernel
theorem dX8_club_120 : decode cX8_club 120 = .ok (.iconst 1, 1) := by decide +kernel
theorem dX8_club_121 : decode cX8_club 121 = .ok (.iadd, 1) := by decide +kernel
theorem dX8_club_122 : decode cX8_club 122 = .ok (.iaload, 1) := by decide +kernel
theorem dX8_club_123 : decode cX8_club 123 = .ok (.iastore, 1) := by decide +kernel
theorem dX8_club_124 : decode cX8_club 124 = .ok (.iinc 2 1, 3) := by decide +kernel
theorem dX8_club_127 : decode cX8_club 127 = .ok (.goto (-41), 3) := by decide +kernel
theorem dX8_club_130 : decode cX8_club 130 = .ok (.aload_n 0, 1) := by decide +kernel
theorem dX8_club_131 : decode cX8_club 131 = .ok (.iconst 0, 1) := by decide +kernel
theorem dX8_club_132 : decode cX8_club 132 = .ok (.putfield 130, 3) := by decide +kernel
theorem dX8_club_135 : decode cX8_club 135 = .ok (.iconst 0, 1) := by decide +kernel
theorem dX8_club_136 : decode cX8_club 136 = .ok (.istore_n 2, 1) := by decide +kernel
theorem dX8_club_137 : decode cX8_club 137 = .ok (.iload_n 2, 1) := by decide +kernel
theorem dX8_club_138 : decode cX8_club 138 = .ok (.iconst 3, 1) := by decide +kernel
theorem dX8_club_139 : decode cX8_club 139 = .ok (.if_icmp .ge 16, 3) := by decide +kernel
theorem dX8_club_142 : decode cX8_club 142 = .ok (.aload_n 0, 1) := by decide +kernel
theorem dX8_club_143 : decode cX8_club 143 = .ok (.getfield 53, 3) := by decide +kernel
theorem dX8_club_146 : decode cX8_club 146 = .ok (.iload_n 2, 1) := by decide +kernel
theorem dX8_club_147 : decode cX8_club 147 = .ok (.iconst (-1), 1) := by decide +kernel
theorem dX8_club_148 : decode cX8_club 148 = .ok (.iastore, 1) := by decide +kernel
theorem dX8_club_149 : decode cX8_club 149 = .ok (.iinc 2 1, 3) := by decide +kernel
theorem dX8_club_152 : decode cX8_club 152 = .ok (.goto (-15), 3) := by decide +kernel
theorem dX8_club_155 : decode cX8_club 155 = .ok (.aload_n 0, 1) := by decide +kernel
theorem dX8_club_156 : decode cX8_club 156 = .ok (.getfield 63, 3) := by decide +kernel
theorem dX8_club_159 : decode cX8_club 159 = .ok (.ireturn, 1) := by decide +kernel
theorem dX8_memberTells_0 : decode cX8_memberTells 0 = .ok (.iload_n 2, 1) := by decide +kernel
theorem dX8_memberTells_1 : decode cX8_memberTells 1 = .ok (.ifCond .ne 12, 3) := by decide +kernel
theorem dX8_memberTells_4 : decode cX8_memberTells 4 = .ok (.aload_n 0, 1) := by decide +kernel
theorem dX8_memberTells_5 : decode cX8_memberTells 5 = .ok (.getfield 32, 3) := by decide +kernel
theorem dX8_memberTells_8 : decode cX8_memberTells 8 = .ok (.iload_n 1, 1) := by decide +kernel
theorem dX8_memberTells_9 : decode cX8_memberTells 9 = .ok (.iaload, 1) := by decide +kernel
theorem dX8_memberTells_10 : decode cX8_memberTells 10 = .ok (.goto 45, 3) := by decide +kernel
theorem dX8_memberTells_13 : decode cX8_memberTells 13 = .ok (.iload_n 2, 1) := by decide +kernel
theorem dX8_memberTells_14 : decode cX8_memberTells 14 = .ok (.iconst 1, 1) := by decide +kernel
theorem dX8_memberTells_15 : decode cX8_memberTells 15 = .ok (.if_icmp .ne 12, 3) := by decide +kernel
theorem dX8_memberTells_18 : decode cX8_memberTells 18 = .ok (.aload_n 0, 1) := by decide +kernel
theorem dX8_memberTells_19 : decode cX8_memberTells 19 = .ok (.getfield 35, 3) := by decide +kernel
theorem dX8_memberTells_22 : decode cX8_memberTells 22 = .ok (.iload_n 1, 1) := by decide +kernel
theorem dX8_memberTells_23 : decode cX8_memberTells 23 = .ok (.iaload, 1) := by decide +kernel
theorem dX8_memberTells_24 : decode cX8_memberTells 24 = .ok (.goto 31, 3) := by decide +kernel
theorem dX8_memberTells_27 : decode cX8_memberTells 27 = .ok (.iload_n 2, 1) := by decide +kernel
theorem dX8_memberTells_28 : decode cX8_memberTells 28 = .ok (.iconst 2, 1) := by decide +kernel
theorem dX8_memberTells_29 : decode cX8_memberTells 29 = .ok (.if_icmp .ne 17, 3) := by decide +kernel
theorem dX8_memberTells_32 : decode cX8_memberTells 32 = .ok (.aload_n 0, 1) := by decide +kernel
theorem dX8_memberTells_33 : decode cX8_memberTells 33 = .ok (.getfield 38, 3) := by decide +kernel
theorem dX8_memberTells_36 : decode cX8_memberTells 36 = .ok (.aload_n 0, 1) := by decide +kernel
theorem dX8_memberTells_37 : decode cX8_memberTells 37 = .ok (.getfield 35, 3) := by decide +kernel
theorem dX8_memberTells_40 : decode cX8_memberTells 40 = .ok (.iload_n 1, 1) := by decide +kernel
theorem dX8_memberTells_41 : decode cX8_memberTells 41 = .ok (.iaload, 1) := by decide +kernel
theorem dX8_memberTells_42 : decode cX8_memberTells 42 = .ok (.iaload, 1) := by decide +kernel
theorem dX8_memberTells_43 : decode cX8_memberTells 43 = .ok (.goto 12, 3) := by decide +kernel
theorem dX8_memberTells_46 : decode cX8_memberTells 46 = .ok (.aload_n 0, 1) := by decide +kernel
theorem dX8_memberTells_47 : decode cX8_memberTells 47 = .ok (.getfield 38, 3) := by decide +kernel
theorem dX8_memberTells_50 : decode cX8_memberTells 50 = .ok (.bipush 11, 2) := by decide +kernel
theorem dX8_memberTells_52 : decode cX8_memberTells 52 = .ok (.iload_n 1, 1) := by decide +kernel
theorem dX8_memberTells_53 : decode cX8_memberTells 53 = .ok (.iadd, 1) := by decide +kernel
theorem dX8_memberTells_54 : decode cX8_memberTells 54 = .ok (.iaload, 1) := by decide +kernel
theorem dX8_memberTells_55 : decode cX8_memberTells 55 = .ok (.ireturn, 1) := by decide +kernel
theorem dX8_member_0 : decode cX8_member 0 = .ok (.aload_n 0, 1) := by decide +kernel
theorem dX8_member_1 : decode cX8_member 1 = .ok (.iload_n 1, 1) := by decide +kernel
theorem dX8_member_2 : decode cX8_member 2 = .ok (.invokevirtual 133, 3) := by decide +kernel
theorem dX8_member_5 : decode cX8_member 5 = .ok (.ifCond .eq 25, 3) := by decide +kernel
theorem dX8_member_8 : decode cX8_member 8 = .ok (.iload_n 2, 1) := by decide +kernel
theorem dX8_member_9 : decode cX8_member 9 = .ok (.iconst 0, 1) := by decide +kernel
theorem dX8_member_10 : decode cX8_member 10 = .ok (.iconst 3, 1) := by decide +kernel
theorem dX8_member_11 : decode cX8_member 11 = .ok (.invokestatic 66, 3) := by decide +kernel
theorem dX8_member_14 : decode cX8_member 14 = .ok (.ifCond .eq 16, 3) := by decide +kernel
theorem dX8_member_17 : decode cX8_member 17 = .ok (.aload_n 0, 1) := by decide +kernel
theorem dX8_member_18 : decode cX8_member 18 = .ok (.aload_n 0, 1) := by decide +kernel
theorem dX8_member_19 : decode cX8_member 19 = .ok (.iload_n 1, 1) := by decide +kernel
theorem dX8_member_20 : decode cX8_member 20 = .ok (.iload_n 2, 1) := by decide +kernel
theorem dX8_member_21 : decode cX8_member 21 = .ok (.invokevirtual 137, 3) := by decide +kernel
theorem dX8_member_24 : decode cX8_member 24 = .ok (.invokevirtual 81, 3) := by decide +kernel
theorem dX8_member_27 : decode cX8_member 27 = .ok (.goto 4, 3) := by decide +kernel
theorem dX8_member_30 : decode cX8_member 30 = .ok (.iconst (-1), 1) := by decide +kernel
theorem dX8_member_31 : decode cX8_member 31 = .ok (.ireturn, 1) := by decide +kernel
theorem dX8_is_0 : decode cX8_is 0 = .ok (.iload_n 0, 1) := by decide +kernel
theorem dX8_is_1 : decode cX8_is 1 = .ok (.iload_n 1, 1) := by decide +kernel
theorem dX8_is_2 : decode cX8_is 2 = .ok (.if_icmp .eq 27, 3) := by decide +kernel
theorem dX8_is_5 : decode cX8_is 5 = .ok (.iload_n 1, 1) := by decide +kernel
theorem dX8_is_6 : decode cX8_is 6 = .ok (.ifCond .eq 23, 3) := by decide +kernel
theorem dX8_is_9 : decode cX8_is 9 = .ok (.iload_n 0, 1) := by decide +kernel
theorem dX8_is_10 : decode cX8_is 10 = .ok (.iconst 4, 1) := by decide +kernel
theorem dX8_is_11 : decode cX8_is 11 = .ok (.if_icmp .ne 8, 3) := by decide +kernel
theorem dX8_is_14 : decode cX8_is 14 = .ok (.iload_n 1, 1) := by decide +kernel
theorem dX8_is_15 : decode cX8_is 15 = .ok (.iconst 1, 1) := by decide +kernel
theorem dX8_is_16 : decode cX8_is 16 = .ok (.if_icmp .eq 13, 3) := by decide +kernel
theorem dX8_is_19 : decode cX8_is 19 = .ok (.iload_n 0, 1) := by decide +kernel
theorem dX8_is_20 : decode cX8_is 20 = .ok (.iconst 5, 1) := by decide +kernel
theorem dX8_is_21 : decode cX8_is 21 = .ok (.if_icmp .ne 12, 3) := by decide +kernel
theorem dX8_is_24 : decode cX8_is 24 = .ok (.iload_n 1, 1) := by decide +kernel
theorem dX8_is_25 : decode cX8_is 25 = .ok (.iconst 2, 1) := by decide +kernel
theorem dX8_is_26 : decode cX8_is 26 = .ok (.if_icmp .ne 7, 3) := by decide +kernel
theorem dX8_is_29 : decode cX8_is 29 = .ok (.iconst 1, 1) := by decide +kernel
theorem dX8_is_30 : decode cX8_is 30 = .ok (.goto 4, 3) := by decide +kernel
theorem dX8_is_33 : decode cX8_is 33 = .ok (.iconst 0, 1) := by decide +kernel
theorem dX8_is_34 : decode cX8_is 34 = .ok (.ireturn, 1) := by decide +kernel
theorem dX8_saysBy_0 : decode cX8_saysBy 0 = .ok (.iload_n 0, 1) := by decide +kernel
theorem dX8_saysBy_1 : decode cX8_saysBy 1 = .ok (.tableswitch 61 2 5 #[31, 43, 45, 38], 31) := by decide +kernel
theorem dX8_saysBy_32 : decode cX8_saysBy 32 = .ok (.iload_n 1, 1) := by decide +kernel
theorem dX8_saysBy_33 : decode cX8_saysBy 33 = .ok (.iload_n 1, 1) := by decide +kernel
theorem dX8_saysBy_34 : decode cX8_saysBy 34 = .ok (.bipush 10, 2) := by decide +kernel
theorem dX8_saysBy_36 : decode cX8_saysBy 36 = .ok (.irem, 1) := by decide +kernel
theorem dX8_saysBy_37 : decode cX8_saysBy 37 = .ok (.isub, 1) := by decide +kernel
theorem dX8_saysBy_38 : decode cX8_saysBy 38 = .ok (.ireturn, 1) := by decide +kernel
theorem dX8_saysBy_39 : decode cX8_saysBy 39 = .ok (.iload_n 1, 1) := by decide +kernel
theorem dX8_saysBy_40 : decode cX8_saysBy 40 = .ok (.bipush 10, 2) := by decide +kernel
theorem dX8_saysBy_42 : decode cX8_saysBy 42 = .ok (.irem, 1) := by decide +kernel
theorem dX8_saysBy_43 : decode cX8_saysBy 43 = .ok (.ireturn, 1) := by decide +kernel
theorem dX8_saysBy_44 : decode cX8_saysBy 44 = .ok (.iload_n 1, 1) := by decide +kernel
theorem dX8_saysBy_45 : decode cX8_saysBy 45 = .ok (.ireturn, 1) := by decide +kernel
theorem dX8_saysBy_46 : decode cX8_saysBy 46 = .ok (.iload_n 1, 1) := by decide +kernel
theorem dX8_saysBy_47 : decode cX8_saysBy 47 = .ok (.iconst 2, 1) := by decide +kernel
theorem dX8_saysBy_48 : decode cX8_saysBy 48 = .ok (.idiv, 1) := by decide +kernel
theorem dX8_saysBy_49 : decode cX8_saysBy 49 = .ok (.ifCond .le 11, 3) := by decide +kernel
theorem dX8_saysBy_52 : decode cX8_saysBy 52 = .ok (.iload_n 1, 1) := by decide +kernel
theorem dX8_saysBy_53 : decode cX8_saysBy 53 = .ok (.iconst 2, 1) := by decide +kernel
theorem dX8_saysBy_54 : decode cX8_saysBy 54 = .ok (.idiv, 1) := by decide +kernel
theorem dX8_saysBy_55 : decode cX8_saysBy 55 = .ok (.iconst 1, 1) := by decide +kernel
theorem dX8_saysBy_56 : decode cX8_saysBy 56 = .ok (.isub, 1) := by decide +kernel
theorem dX8_saysBy_57 : decode cX8_saysBy 57 = .ok (.goto 4, 3) := by decide +kernel
theorem dX8_saysBy_60 : decode cX8_saysBy 60 = .ok (.iconst 0, 1) := by decide +kernel
theorem dX8_saysBy_61 : decode cX8_saysBy 61 = .ok (.ireturn, 1) := by decide +kernel
theorem dX8_saysBy_62 : decode cX8_saysBy 62 = .ok (.iload_n 1, 1) := by decide +kernel
theorem dX8_saysBy_63 : decode cX8_saysBy 63 = .ok (.iconst 2, 1) := by decide +kernel
theorem dX8_saysBy_64 : decode cX8_saysBy 64 = .ok (.idiv, 1) := by decide +kernel
theorem dX8_saysBy_65 : decode cX8_saysBy 65 = .ok (.ireturn, 1) := by decide +kernel
theorem dX8_breath_0 : decode cX8_breath 0 = .ok (.iload_n 2, 1) := by decide +kernel
theorem dX8_breath_1 : decode cX8_breath 1 = .ok (.aload_n 0, 1) := by decide +kernel
theorem dX8_breath_2 : decode cX8_breath 2 = .ok (.getfield 32, 3) := by decide +kernel
theorem dX8_breath_5 : decode cX8_breath 5 = .ok (.iload_n 1, 1) := by decide +kernel
theorem dX8_breath_6 : decode cX8_breath 6 = .ok (.iaload, 1) := by decide +kernel
theorem dX8_breath_7 : decode cX8_breath 7 = .ok (.iload_n 2, 1) := by decide +kernel
theorem dX8_breath_8 : decode cX8_breath 8 = .ok (.invokestatic 140, 3) := by decide +kernel
theorem dX8_breath_11 : decode cX8_breath 11 = .ok (.isub, 1) := by decide +kernel
theorem dX8_breath_12 : decode cX8_breath 12 = .ok (.ireturn, 1) := by decide +kernel
theorem dX8_behind_0 : decode cX8_behind 0 = .ok (.iload_n 1, 1) := by decide +kernel
theorem dX8_behind_1 : decode cX8_behind 1 = .ok (.iconst 1, 1) := by decide +kernel
theorem dX8_behind_2 : decode cX8_behind 2 = .ok (.iadd, 1) := by decide +kernel
theorem dX8_behind_3 : decode cX8_behind 3 = .ok (.aload_n 0, 1) := by decide +kernel
theorem dX8_behind_4 : decode cX8_behind 4 = .ok (.getfield 70, 3) := by decide +kernel
theorem dX8_behind_7 : decode cX8_behind 7 = .ok (.irem, 1) := by decide +kernel
theorem dX8_behind_8 : decode cX8_behind 8 = .ok (.ireturn, 1) := by decide +kernel
theorem dX8_ahead_0 : decode cX8_ahead 0 = .ok (.iload_n 1, 1) := by decide +kernel
theorem dX8_ahead_1 : decode cX8_ahead 1 = .ok (.aload_n 0, 1) := by decide +kernel
theorem dX8_ahead_2 : decode cX8_ahead 2 = .ok (.getfield 70, 3) := by decide +kernel
theorem dX8_ahead_5 : decode cX8_ahead 5 = .ok (.iadd, 1) := by decide +kernel
theorem dX8_ahead_6 : decode cX8_ahead 6 = .ok (.iconst 1, 1) := by decide +kernel
theorem dX8_ahead_7 : decode cX8_ahead 7 = .ok (.isub, 1) := by decide +kernel
theorem dX8_ahead_8 : decode cX8_ahead 8 = .ok (.aload_n 0, 1) := by decide +kernel
theorem dX8_ahead_9 : decode cX8_ahead 9 = .ok (.getfield 70, 3) := by decide +kernel
theorem dX8_ahead_12 : decode cX8_ahead 12 = .ok (.irem, 1) := by decide +kernel
theorem dX8_ahead_13 : decode cX8_ahead 13 = .ok (.ireturn, 1) := by decide +kernel
theorem dX8_mark_0 : decode cX8_mark 0 = .ok (.aload_n 0, 1) := by decide +kernel
theorem dX8_mark_1 : decode cX8_mark 1 = .ok (.iload_n 1, 1) := by decide +kernel
theorem dX8_mark_2 : decode cX8_mark 2 = .ok (.invokevirtual 133, 3) := by decide +kernel
theorem dX8_mark_5 : decode cX8_mark 5 = .ok (.ifCond .eq 12, 3) := by decide +kernel
theorem dX8_mark_8 : decode cX8_mark 8 = .ok (.iload_n 2, 1) := by decide +kernel
theorem dX8_mark_9 : decode cX8_mark 9 = .ok (.iconst 1, 1) := by decide +kernel
theorem dX8_mark_10 : decode cX8_mark 10 = .ok (.iconst 5, 1) := by decide +kernel
theorem dX8_mark_11 : decode cX8_mark 11 = .ok (.invokestatic 66, 3) := by decide +kernel
theorem dX8_mark_14 : decode cX8_mark 14 = .ok (.ifCond .ne 5, 3) := by decide +kernel
theorem dX8_mark_17 : decode cX8_mark 17 = .ok (.iconst (-1), 1) := by decide +kernel
theorem dX8_mark_18 : decode cX8_mark 18 = .ok (.ireturn, 1) := by decide +kernel
theorem dX8_mark_19 : decode cX8_mark 19 = .ok (.aload_n 0, 1) := by decide +kernel
theorem dX8_mark_20 : decode cX8_mark 20 = .ok (.getfield 32, 3) := by decide +kernel
theorem dX8_mark_23 : decode cX8_mark 23 = .ok (.iload_n 1, 1) := by decide +kernel
theorem dX8_mark_24 : decode cX8_mark 24 = .ok (.iaload, 1) := by decide +kernel
theorem dX8_mark_25 : decode cX8_mark 25 = .ok (.iload_n 2, 1) := by decide +kernel
theorem dX8_mark_26 : decode cX8_mark 26 = .ok (.invokestatic 143, 3) := by decide +kernel
theorem dX8_mark_29 : decode cX8_mark 29 = .ok (.ifCond .ne 9, 3) := by decide +kernel
theorem dX8_mark_32 : decode cX8_mark 32 = .ok (.aload_n 0, 1) := by decide +kernel
theorem dX8_mark_33 : decode cX8_mark 33 = .ok (.iconst 3, 1) := by decide +kernel
theorem dX8_mark_34 : decode cX8_mark 34 = .ok (.invokevirtual 73, 3) := by decide +kernel
theorem dX8_mark_37 : decode cX8_mark 37 = .ok (.ireturn, 1) := by decide +kernel
theorem dX8_mark_38 : decode cX8_mark 38 = .ok (.iconst 0, 1) := by decide +kernel
theorem dX8_mark_39 : decode cX8_mark 39 = .ok (.istore_n 3, 1) := by decide +kernel
theorem dX8_mark_40 : decode cX8_mark 40 = .ok (.iload_n 2, 1) := by decide +kernel
theorem dX8_mark_41 : decode cX8_mark 41 = .ok (.tableswitch 179 1 3 #[27, 71, 135], 27) := by decide +kernel
theorem dX8_mark_68 : decode cX8_mark 68 = .ok (.aload_n 0, 1) := by decide +kernel
theorem dX8_mark_69 : decode cX8_mark 69 = .ok (.getfield 38, 3) := by decide +kernel
theorem dX8_mark_72 : decode cX8_mark 72 = .ok (.aload_n 0, 1) := by decide +kernel
theorem dX8_mark_73 : decode cX8_mark 73 = .ok (.getfield 35, 3) := by decide +kernel
theorem dX8_mark_76 : decode cX8_mark 76 = .ok (.iload_n 1, 1) := by decide +kernel
theorem dX8_mark_77 : decode cX8_mark 77 = .ok (.iaload, 1) := by decide +kernel
theorem dX8_mark_78 : decode cX8_mark 78 = .ok (.iaload, 1) := by decide +kernel
theorem dX8_mark_79 : decode cX8_mark 79 = .ok (.aload_n 0, 1) := by decide +kernel
theorem dX8_mark_80 : decode cX8_mark 80 = .ok (.getfield 38, 3) := by decide +kernel
theorem dX8_mark_83 : decode cX8_mark 83 = .ok (.aload_n 0, 1) := by decide +kernel
theorem dX8_mark_84 : decode cX8_mark 84 = .ok (.aload_n 0, 1) := by decide +kernel
theorem dX8_mark_85 : decode cX8_mark 85 = .ok (.getfield 35, 3) := by decide +kernel
theorem dX8_mark_88 : decode cX8_mark 88 = .ok (.iload_n 1, 1) := by decide +kernel
theorem dX8_mark_89 : decode cX8_mark 89 = .ok (.iaload, 1) := by decide +kernel
theorem dX8_mark_90 : decode cX8_mark 90 = .ok (.invokevirtual 147, 3) := by decide +kernel
theorem dX8_mark_93 : decode cX8_mark 93 = .ok (.iaload, 1) := by decide +kernel
theorem dX8_mark_94 : decode cX8_mark 94 = .ok (.iadd, 1) := by decide +kernel
theorem dX8_mark_95 : decode cX8_mark 95 = .ok (.aload_n 0, 1) := by decide +kernel
theorem dX8_mark_96 : decode cX8_mark 96 = .ok (.getfield 38, 3) := by decide +kernel
theorem dX8_mark_99 : decode cX8_mark 99 = .ok (.aload_n 0, 1) := by decide +kernel
theorem dX8_mark_100 : decode cX8_mark 100 = .ok (.aload_n 0, 1) := by decide +kernel
theorem dX8_mark_101 : decode cX8_mark 101 = .ok (.getfield 35, 3) := by decide +kernel
theorem dX8_mark_104 : decode cX8_mark 104 = .ok (.iload_n 1, 1) := by decide +kernel
theorem dX8_mark_105 : decode cX8_mark 105 = .ok (.iaload, 1) := by decide +kernel
theorem dX8_mark_106 : decode cX8_mark 106 = .ok (.invokevirtual 150, 3) := by decide +kernel
theorem dX8_mark_109 : decode cX8_mark 109 = .ok (.iaload, 1) := by decide +kernel
theorem dX8_mark_110 : decode cX8_mark 110 = .ok (.iadd, 1) := by decide +kernel
theorem dX8_mark_111 : decode cX8_mark 111 = .ok (.ireturn, 1) := by decide +kernel
theorem dX8_mark_112 : decode cX8_mark 112 = .ok (.iconst 0, 1) := by decide +kernel
theorem dX8_mark_113 : decode cX8_mark 113 = .ok (.istore 4, 2) := by decide +kernel
theorem dX8_mark_115 : decode cX8_mark 115 = .ok (.iload 4, 2) := by decide +kernel
theorem dX8_mark_117 : decode cX8_mark 117 = .ok (.aload_n 0, 1) := by decide +kernel
theorem dX8_mark_118 : decode cX8_mark 118 = .ok (.getfield 63, 3) := by decide +kernel
theorem dX8_mark_121 : decode cX8_mark 121 = .ok (.if_icmp .ge 53, 3) := by decide +kernel
theorem dX8_mark_124 : decode cX8_mark 124 = .ok (.iload_n 3, 1) := by decide +kernel
theorem dX8_mark_125 : decode cX8_mark 125 = .ok (.iload 4, 2) := by decide +kernel
theorem dX8_mark_127 : decode cX8_mark 127 = .ok (.iload_n 1, 1) := by decide +kernel
theorem dX8_mark_128 : decode cX8_mark 128 = .ok (.if_icmp .eq 37, 3) := by decide +kernel
theorem dX8_mark_131 : decode cX8_mark 131 = .ok (.aload_n 0, 1) := by decide +kernel
theorem dX8_mark_132 : decode cX8_mark 132 = .ok (.getfield 32, 3) := by decide +kernel
theorem dX8_mark_135 : decode cX8_mark 135 = .ok (.iload 4, 2) := by decide +kernel
theorem dX8_mark_137 : decode cX8_mark 137 = .ok (.iaload, 1) := by decide +kernel
theorem dX8_mark_138 : decode cX8_mark 138 = .ok (.iconst 2, 1) := by decide +kernel
theorem dX8_mark_139 : decode cX8_mark 139 = .ok (.invokestatic 143, 3) := by decide +kernel
theorem dX8_mark_142 : decode cX8_mark 142 = .ok (.ifCond .eq 23, 3) := by decide +kernel
theorem dX8_mark_145 : decode cX8_mark 145 = .ok (.aload_n 0, 1) := by decide +kernel
theorem dX8_mark_146 : decode cX8_mark 146 = .ok (.getfield 35, 3) := by decide +kernel
theorem dX8_mark_149 : decode cX8_mark 149 = .ok (.iload 4, 2) := by decide +kernel
theorem dX8_mark_151 : decode cX8_mark 151 = .ok (.iaload, 1) := by decide +kernel
theorem dX8_mark_152 : decode cX8_mark 152 = .ok (.aload_n 0, 1) := by decide +kernel
theorem dX8_mark_153 : decode cX8_mark 153 = .ok (.getfield 35, 3) := by decide +kernel
theorem dX8_mark_156 : decode cX8_mark 156 = .ok (.iload_n 1, 1) := by decide +kernel
theorem dX8_mark_157 : decode cX8_mark 157 = .ok (.iaload, 1) := by decide +kernel
theorem dX8_mark_158 : decode cX8_mark 158 = .ok (.if_icmp .ne 7, 3) := by decide +kernel
theorem dX8_mark_161 : decode cX8_mark 161 = .ok (.iconst 1, 1) := by decide +kernel
theorem dX8_mark_162 : decode cX8_mark 162 = .ok (.goto 4, 3) := by decide +kernel
theorem dX8_mark_165 : decode cX8_mark 165 = .ok (.iconst 0, 1) := by decide +kernel
theorem dX8_mark_166 : decode cX8_mark 166 = .ok (.iadd, 1) := by decide +kernel
theorem dX8_mark_167 : decode cX8_mark 167 = .ok (.istore_n 3, 1) := by decide +kernel
theorem dX8_mark_168 : decode cX8_mark 168 = .ok (.iinc 4 1, 3) := by decide +kernel
theorem dX8_mark_171 : decode cX8_mark 171 = .ok (.goto (-56), 3) := by decide +kernel
theorem dX8_mark_174 : decode cX8_mark 174 = .ok (.iload_n 3, 1) := by decide +kernel
theorem dX8_mark_175 : decode cX8_mark 175 = .ok (.ireturn, 1) := by decide +kernel
theorem dX8_mark_176 : decode cX8_mark 176 = .ok (.iconst 0, 1) := by decide +kernel
theorem dX8_mark_177 : decode cX8_mark 177 = .ok (.istore 4, 2) := by decide +kernel
theorem dX8_mark_179 : decode cX8_mark 179 = .ok (.iload 4, 2) := by decide +kernel
theorem dX8_mark_181 : decode cX8_mark 181 = .ok (.aload_n 0, 1) := by decide +kernel
theorem dX8_mark_182 : decode cX8_mark 182 = .ok (.getfield 63, 3) := by decide +kernel
theorem dX8_mark_185 : decode cX8_mark 185 = .ok (.if_icmp .ge 33, 3) := by decide +kernel
theorem dX8_mark_188 : decode cX8_mark 188 = .ok (.iload_n 3, 1) := by decide +kernel
theorem dX8_mark_189 : decode cX8_mark 189 = .ok (.iload 4, 2) := by decide +kernel
theorem dX8_mark_191 : decode cX8_mark 191 = .ok (.iload_n 1, 1) := by decide +kernel
theorem dX8_mark_192 : decode cX8_mark 192 = .ok (.if_icmp .eq 17, 3) := by decide +kernel
theorem dX8_mark_195 : decode cX8_mark 195 = .ok (.aload_n 0, 1) := by decide +kernel
theorem dX8_mark_196 : decode cX8_mark 196 = .ok (.iload 4, 2) := by decide +kernel
theorem dX8_mark_198 : decode cX8_mark 198 = .ok (.iconst 5, 1) := by decide +kernel
theorem dX8_mark_199 : decode cX8_mark 199 = .ok (.invokevirtual 153, 3) := by decide +kernel
theorem dX8_mark_202 : decode cX8_mark 202 = .ok (.ifCond .ne 7, 3) := by decide +kernel
theorem dX8_mark_205 : decode cX8_mark 205 = .ok (.iconst 1, 1) := by decide +kernel
theorem dX8_mark_206 : decode cX8_mark 206 = .ok (.goto 4, 3) := by decide +kernel
theorem dX8_mark_209 : decode cX8_mark 209 = .ok (.iconst 0, 1) := by decide +kernel
theorem dX8_mark_210 : decode cX8_mark 210 = .ok (.iadd, 1) := by decide +kernel
theorem dX8_mark_211 : decode cX8_mark 211 = .ok (.istore_n 3, 1) := by decide +kernel
theorem dX8_mark_212 : decode cX8_mark 212 = .ok (.iinc 4 1, 3) := by decide +kernel
theorem dX8_mark_215 : decode cX8_mark 215 = .ok (.goto (-36), 3) := by decide +kernel
theorem dX8_mark_218 : decode cX8_mark 218 = .ok (.iload_n 3, 1) := by decide +kernel
theorem dX8_mark_219 : decode cX8_mark 219 = .ok (.ireturn, 1) := by decide +kernel
theorem dX8_mark_220 : decode cX8_mark 220 = .ok (.iconst 0, 1) := by decide +kernel
theorem dX8_mark_221 : decode cX8_mark 221 = .ok (.istore 4, 2) := by decide +kernel
theorem dX8_mark_223 : decode cX8_mark 223 = .ok (.iload 4, 2) := by decide +kernel
theorem dX8_mark_225 : decode cX8_mark 225 = .ok (.bipush 100, 2) := by decide +kernel
theorem dX8_mark_227 : decode cX8_mark 227 = .ok (.if_icmp .ge 51, 3) := by decide +kernel
theorem dX8_mark_230 : decode cX8_mark 230 = .ok (.iload_n 3, 1) := by decide +kernel
