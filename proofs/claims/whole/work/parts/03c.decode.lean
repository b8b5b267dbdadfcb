theorem dX6_init_0 : decode cX6_init 0 = .ok (.aload_n 0, 1) := by decide +kernel
theorem dX6_init_1 : decode cX6_init 1 = .ok (.invokespecial 1, 3) := by decide +kernel
theorem dX6_init_4 : decode cX6_init 4 = .ok (.aload_n 0, 1) := by decide +kernel
theorem dX6_init_5 : decode cX6_init 5 = .ok (.bipush 6, 2) := by decide +kernel
theorem dX6_init_7 : decode cX6_init 7 = .ok (.newarray .int, 2) := by decide +kernel
theorem dX6_init_9 : decode cX6_init 9 = .ok (.putfield 7, 3) := by decide +kernel
theorem dX6_init_12 : decode cX6_init 12 = .ok (.aload_n 0, 1) := by decide +kernel
theorem dX6_init_13 : decode cX6_init 13 = .ok (.lconst 1, 1) := by decide +kernel
theorem dX6_init_14 : decode cX6_init 14 = .ok (.putfield 13, 3) := by decide +kernel
theorem dX6_init_17 : decode cX6_init 17 = .ok (.aload_n 0, 1) := by decide +kernel
theorem dX6_init_18 : decode cX6_init 18 = .ok (.bipush 6, 2) := by decide +kernel
theorem dX6_init_20 : decode cX6_init 20 = .ok (.newarray .int, 2) := by decide +kernel
theorem dX6_init_22 : decode cX6_init 22 = .ok (.putfield 17, 3) := by decide +kernel
theorem dX6_init_25 : decode cX6_init 25 = .ok (.aload_n 0, 1) := by decide +kernel
theorem dX6_init_26 : decode cX6_init 26 = .ok (.sipush 240, 3) := by decide +kernel
theorem dX6_init_29 : decode cX6_init 29 = .ok (.newarray .int, 2) := by decide +kernel
theorem dX6_init_31 : decode cX6_init 31 = .ok (.putfield 20, 3) := by decide +kernel
theorem dX6_init_34 : decode cX6_init 34 = .ok (.aload_n 0, 1) := by decide +kernel
theorem dX6_init_35 : decode cX6_init 35 = .ok (.iconst 4, 1) := by decide +kernel
theorem dX6_init_36 : decode cX6_init 36 = .ok (.newarray .int, 2) := by decide +kernel
theorem dX6_init_38 : decode cX6_init 38 = .ok (.putfield 23, 3) := by decide +kernel
theorem dX6_init_41 : decode cX6_init 41 = .ok (.aload_n 0, 1) := by decide +kernel
theorem dX6_init_42 : decode cX6_init 42 = .ok (.sipush 240, 3) := by decide +kernel
theorem dX6_init_45 : decode cX6_init 45 = .ok (.newarray .byte, 2) := by decide +kernel
theorem dX6_init_47 : decode cX6_init 47 = .ok (.putfield 26, 3) := by decide +kernel
theorem dX6_init_50 : decode cX6_init 50 = .ok (.aload_n 0, 1) := by decide +kernel
theorem dX6_init_51 : decode cX6_init 51 = .ok (.bipush 40, 2) := by decide +kernel
theorem dX6_init_53 : decode cX6_init 53 = .ok (.newarray .int, 2) := by decide +kernel
theorem dX6_init_55 : decode cX6_init 55 = .ok (.putfield 30, 3) := by decide +kernel
theorem dX6_init_58 : decode cX6_init 58 = .ok (.aload_n 0, 1) := by decide +kernel
theorem dX6_init_59 : decode cX6_init 59 = .ok (.bipush 18, 2) := by decide +kernel
theorem dX6_init_61 : decode cX6_init 61 = .ok (.newarray .int, 2) := by decide +kernel
theorem dX6_init_63 : decode cX6_init 63 = .ok (.putfield 33, 3) := by decide +kernel
theorem dX6_init_66 : decode cX6_init 66 = .ok (.aload_n 0, 1) := by decide +kernel
theorem dX6_init_67 : decode cX6_init 67 = .ok (.bipush 18, 2) := by decide +kernel
theorem dX6_init_69 : decode cX6_init 69 = .ok (.newarray .int, 2) := by decide +kernel
theorem dX6_init_71 : decode cX6_init 71 = .ok (.putfield 36, 3) := by decide +kernel
theorem dX6_init_74 : decode cX6_init 74 = .ok (.aload_n 0, 1) := by decide +kernel
theorem dX6_init_75 : decode cX6_init 75 = .ok (.sipush 451, 3) := by decide +kernel
theorem dX6_init_78 : decode cX6_init 78 = .ok (.newarray .int, 2) := by decide +kernel
theorem dX6_init_80 : decode cX6_init 80 = .ok (.putfield 39, 3) := by decide +kernel
theorem dX6_init_83 : decode cX6_init 83 = .ok (.aload_n 0, 1) := by decide +kernel
theorem dX6_init_84 : decode cX6_init 84 = .ok (.sipush 1353, 3) := by decide +kernel
theorem dX6_init_87 : decode cX6_init 87 = .ok (.newarray .int, 2) := by decide +kernel
theorem dX6_init_89 : decode cX6_init 89 = .ok (.putfield 42, 3) := by decide +kernel
theorem dX6_init_92 : decode cX6_init 92 = .ok (.aload_n 0, 1) := by decide +kernel
theorem dX6_init_93 : decode cX6_init 93 = .ok (.iconst 3, 1) := by decide +kernel
theorem dX6_init_94 : decode cX6_init 94 = .ok (.newarray .int, 2) := by decide +kernel
theorem dX6_init_96 : decode cX6_init 96 = .ok (.putfield 45, 3) := by decide +kernel
theorem dX6_init_99 : decode cX6_init 99 = .ok (.aload_n 0, 1) := by decide +kernel
theorem dX6_init_100 : decode cX6_init 100 = .ok (.bipush 11, 2) := by decide +kernel
theorem dX6_init_102 : decode cX6_init 102 = .ok (.newarray .int, 2) := by decide +kernel
theorem dX6_init_104 : decode cX6_init 104 = .ok (.putfield 48, 3) := by decide +kernel
theorem dX6_init_107 : decode cX6_init 107 = .ok (.aload_n 0, 1) := by decide +kernel
theorem dX6_init_108 : decode cX6_init 108 = .ok (.sipush 10000, 3) := by decide +kernel
theorem dX6_init_111 : decode cX6_init 111 = .ok (.newarray .int, 2) := by decide +kernel
theorem dX6_init_113 : decode cX6_init 113 = .ok (.putfield 51, 3) := by decide +kernel
theorem dX6_init_116 : decode cX6_init 116 = .ok (.iconst 0, 1) := by decide +kernel
theorem dX6_init_117 : decode cX6_init 117 = .ok (.istore_n 1, 1) := by decide +kernel
theorem dX6_init_118 : decode cX6_init 118 = .ok (.iload_n 1, 1) := by decide +kernel
theorem dX6_init_119 : decode cX6_init 119 = .ok (.bipush 6, 2) := by decide +kernel
theorem dX6_init_121 : decode cX6_init 121 = .ok (.if_icmp .ge 16, 3) := by decide +kernel
theorem dX6_init_124 : decode cX6_init 124 = .ok (.aload_n 0, 1) := by decide +kernel
theorem dX6_init_125 : decode cX6_init 125 = .ok (.getfield 17, 3) := by decide +kernel
theorem dX6_init_128 : decode cX6_init 128 = .ok (.iload_n 1, 1) := by decide +kernel
theorem dX6_init_129 : decode cX6_init 129 = .ok (.iconst (-1), 1) := by decide +kernel
theorem dX6_init_130 : decode cX6_init 130 = .ok (.iastore, 1) := by decide +kernel
theorem dX6_init_131 : decode cX6_init 131 = .ok (.iinc 1 1, 3) := by decide +kernel
theorem dX6_init_134 : decode cX6_init 134 = .ok (.goto (-16), 3) := by decide +kernel
theorem dX6_init_137 : decode cX6_init 137 = .ok (.iconst 0, 1) := by decide +kernel
theorem dX6_init_138 : decode cX6_init 138 = .ok (.istore_n 1, 1) := by decide +kernel
theorem dX6_init_139 : decode cX6_init 139 = .ok (.iload_n 1, 1) := by decide +kernel
theorem dX6_init_140 : decode cX6_init 140 = .ok (.iconst 4, 1) := by decide +kernel
theorem dX6_init_141 : decode cX6_init 141 = .ok (.if_icmp .ge 16, 3) := by decide +kernel
theorem dX6_init_144 : decode cX6_init 144 = .ok (.aload_n 0, 1) := by decide +kernel
theorem dX6_init_145 : decode cX6_init 145 = .ok (.getfield 23, 3) := by decide +kernel
theorem dX6_init_148 : decode cX6_init 148 = .ok (.iload_n 1, 1) := by decide +kernel
theorem dX6_init_149 : decode cX6_init 149 = .ok (.iconst (-1), 1) := by decide +kernel
theorem dX6_init_150 : decode cX6_init 150 = .ok (.iastore, 1) := by decide +kernel
theorem dX6_init_151 : decode cX6_init 151 = .ok (.iinc 1 1, 3) := by decide +kernel
theorem dX6_init_154 : decode cX6_init 154 = .ok (.goto (-15), 3) := by decide +kernel
theorem dX6_init_157 : decode cX6_init 157 = .ok (.iconst 0, 1) := by decide +kernel
theorem dX6_init_158 : decode cX6_init 158 = .ok (.istore_n 1, 1) := by decide +kernel
theorem dX6_init_159 : decode cX6_init 159 = .ok (.iload_n 1, 1) := by decide +kernel
theorem dX6_init_160 : decode cX6_init 160 = .ok (.iconst 3, 1) := by decide +kernel
theorem dX6_init_161 : decode cX6_init 161 = .ok (.if_icmp .ge 16, 3) := by decide +kernel
theorem dX6_init_164 : decode cX6_init 164 = .ok (.aload_n 0, 1) := by decide +kernel
theorem dX6_init_165 : decode cX6_init 165 = .ok (.getfield 45, 3) := by decide +kernel
theorem dX6_init_168 : decode cX6_init 168 = .ok (.iload_n 1, 1) := by decide +kernel
theorem dX6_init_169 : decode cX6_init 169 = .ok (.iconst (-1), 1) := by decide +kernel
theorem dX6_init_170 : decode cX6_init 170 = .ok (.iastore, 1) := by decide +kernel
theorem dX6_init_171 : decode cX6_init 171 = .ok (.iinc 1 1, 3) := by decide +kernel
theorem dX6_init_174 : decode cX6_init 174 = .ok (.goto (-15), 3) := by decide +kernel
theorem dX6_init_177 : decode cX6_init 177 = .ok (.return_, 1) := by decide +kernel
theorem dX6_in_0 : decode cX6_in 0 = .ok (.iload_n 0, 1) := by decide +kernel
theorem dX6_in_1 : decode cX6_in 1 = .ok (.iload_n 1, 1) := by decide +kernel
theorem dX6_in_2 : decode cX6_in 2 = .ok (.if_icmp .lt 12, 3) := by decide +kernel
theorem dX6_in_5 : decode cX6_in 5 = .ok (.iload_n 0, 1) := by decide +kernel
theorem dX6_in_6 : decode cX6_in 6 = .ok (.iload_n 2, 1) := by decide +kernel
theorem dX6_in_7 : decode cX6_in 7 = .ok (.if_icmp .gt 7, 3) := by decide +kernel
theorem dX6_in_10 : decode cX6_in 10 = .ok (.iconst 1, 1) := by decide +kernel
theorem dX6_in_11 : decode cX6_in 11 = .ok (.goto 4, 3) := by decide +kernel
theorem dX6_in_14 : decode cX6_in 14 = .ok (.iconst 0, 1) := by decide +kernel
theorem dX6_in_15 : decode cX6_in 15 = .ok (.ireturn, 1) := by decide +kernel
theorem dX6_has_0 : decode cX6_has 0 = .ok (.iload_n 0, 1) := by decide +kernel
theorem dX6_has_1 : decode cX6_has 1 = .ok (.iload_n 1, 1) := by decide +kernel
theorem dX6_has_2 : decode cX6_has 2 = .ok (.ishr, 1) := by decide +kernel
theorem dX6_has_3 : decode cX6_has 3 = .ok (.iconst 1, 1) := by decide +kernel
theorem dX6_has_4 : decode cX6_has 4 = .ok (.iand, 1) := by decide +kernel
theorem dX6_has_5 : decode cX6_has 5 = .ok (.iconst 1, 1) := by decide +kernel
theorem dX6_has_6 : decode cX6_has 6 = .ok (.if_icmp .ne 7, 3) := by decide +kernel
theorem dX6_has_9 : decode cX6_has 9 = .ok (.iconst 1, 1) := by decide +kernel
theorem dX6_has_10 : decode cX6_has 10 = .ok (.goto 4, 3) := by decide +kernel
theorem dX6_has_13 : decode cX6_has 13 = .ok (.iconst 0, 1) := by decide +kernel
theorem dX6_has_14 : decode cX6_has 14 = .ok (.ireturn, 1) := by decide +kernel
theorem dX6_bitsOf_0 : decode cX6_bitsOf 0 = .ok (.iconst 0, 1) := by decide +kernel
theorem dX6_bitsOf_1 : decode cX6_bitsOf 1 = .ok (.istore_n 1, 1) := by decide +kernel
theorem dX6_bitsOf_2 : decode cX6_bitsOf 2 = .ok (.iconst 0, 1) := by decide +kernel
theorem dX6_bitsOf_3 : decode cX6_bitsOf 3 = .ok (.istore_n 2, 1) := by decide +kernel
theorem dX6_bitsOf_4 : decode cX6_bitsOf 4 = .ok (.iload_n 2, 1) := by decide +kernel
theorem dX6_bitsOf_5 : decode cX6_bitsOf 5 = .ok (.bipush 9, 2) := by decide +kernel
theorem dX6_bitsOf_7 : decode cX6_bitsOf 7 = .ok (.if_icmp .ge 17, 3) := by decide +kernel
theorem dX6_bitsOf_10 : decode cX6_bitsOf 10 = .ok (.iload_n 1, 1) := by decide +kernel
theorem dX6_bitsOf_11 : decode cX6_bitsOf 11 = .ok (.iload_n 0, 1) := by decide +kernel
theorem dX6_bitsOf_12 : decode cX6_bitsOf 12 = .ok (.iload_n 2, 1) := by decide +kernel
theorem dX6_bitsOf_13 : decode cX6_bitsOf 13 = .ok (.ishr, 1) := by decide +kernel
theorem dX6_bitsOf_14 : decode cX6_bitsOf 14 = .ok (.iconst 1, 1) := by decide +kernel
theorem dX6_bitsOf_15 : decode cX6_bitsOf 15 = .ok (.iand, 1) := by decide +kernel
theorem dX6_bitsOf_16 : decode cX6_bitsOf 16 = .ok (.iadd, 1) := by decide +kernel
theorem dX6_bitsOf_17 : decode cX6_bitsOf 17 = .ok (.istore_n 1, 1) := by decide +kernel
theorem dX6_bitsOf_18 : decode cX6_bitsOf 18 = .ok (.iinc 2 1, 3) := by decide +kernel
theorem dX6_bitsOf_21 : decode cX6_bitsOf 21 = .ok (.goto (-17), 3) := by decide +kernel
theorem dX6_bitsOf_24 : decode cX6_bitsOf 24 = .ok (.iload_n 1, 1) := by decide +kernel
theorem dX6_bitsOf_25 : decode cX6_bitsOf 25 = .ok (.ireturn, 1) := by decide +kernel
theorem dX6_find_0 : decode cX6_find 0 = .ok (.aload_n 0, 1) := by decide +kernel
theorem dX6_find_1 : decode cX6_find 1 = .ok (.iload_n 1, 1) := by decide +kernel
theorem dX6_find_2 : decode cX6_find 2 = .ok (.putfield 54, 3) := by decide +kernel
theorem dX6_find_5 : decode cX6_find 5 = .ok (.aload_n 0, 1) := by decide +kernel
theorem dX6_find_6 : decode cX6_find 6 = .ok (.getfield 7, 3) := by decide +kernel
theorem dX6_find_9 : decode cX6_find 9 = .ok (.iload_n 1, 1) := by decide +kernel
theorem dX6_find_10 : decode cX6_find 10 = .ok (.dup2, 1) := by decide +kernel
theorem dX6_find_11 : decode cX6_find 11 = .ok (.iaload, 1) := by decide +kernel
theorem dX6_find_12 : decode cX6_find 12 = .ok (.iconst 1, 1) := by decide +kernel
theorem dX6_find_13 : decode cX6_find 13 = .ok (.iadd, 1) := by decide +kernel
theorem dX6_find_14 : decode cX6_find 14 = .ok (.iastore, 1) := by decide +kernel
theorem dX6_find_15 : decode cX6_find 15 = .ok (.bipush (-3), 2) := by decide +kernel
theorem dX6_find_17 : decode cX6_find 17 = .ok (.ireturn, 1) := by decide +kernel
theorem dX6_told_0 : decode cX6_told 0 = .ok (.aload_n 0, 1) := by decide +kernel
theorem dX6_told_1 : decode cX6_told 1 = .ok (.iload_n 1, 1) := by decide +kernel
theorem dX6_told_2 : decode cX6_told 2 = .ok (.putfield 58, 3) := by decide +kernel
theorem dX6_told_5 : decode cX6_told 5 = .ok (.iconst 1, 1) := by decide +kernel
theorem dX6_told_6 : decode cX6_told 6 = .ok (.ireturn, 1) := by decide +kernel
theorem dX6_fraction_0 : decode cX6_fraction 0 = .ok (.lload_n 1, 1) := by decide +kernel
theorem dX6_fraction_1 : decode cX6_fraction 1 = .ok (.lstore 5, 2) := by decide +kernel
theorem dX6_fraction_3 : decode cX6_fraction 3 = .ok (.lload_n 3, 1) := by decide +kernel
theorem dX6_fraction_4 : decode cX6_fraction 4 = .ok (.lstore 7, 2) := by decide +kernel
theorem dX6_fraction_6 : decode cX6_fraction 6 = .ok (.lload 7, 2) := by decide +kernel
theorem dX6_fraction_8 : decode cX6_fraction 8 = .ok (.lconst 0, 1) := by decide +kernel
theorem dX6_fraction_9 : decode cX6_fraction 9 = .ok (.lcmp, 1) := by decide +kernel
theorem dX6_fraction_10 : decode cX6_fraction 10 = .ok (.ifCond .eq 21, 3) := by decide +kernel
theorem dX6_fraction_13 : decode cX6_fraction 13 = .ok (.lload 5, 2) := by decide +kernel
theorem dX6_fraction_15 : decode cX6_fraction 15 = .ok (.lload 7, 2) := by decide +kernel
theorem dX6_fraction_17 : decode cX6_fraction 17 = .ok (.lrem, 1) := by decide +kernel
theorem dX6_fraction_18 : decode cX6_fraction 18 = .ok (.lstore 9, 2) := by decide +kernel
theorem dX6_fraction_20 : decode cX6_fraction 20 = .ok (.lload 7, 2) := by decide +kernel
theorem dX6_fraction_22 : decode cX6_fraction 22 = .ok (.lstore 5, 2) := by decide +kernel
theorem dX6_fraction_24 : decode cX6_fraction 24 = .ok (.lload 9, 2) := by decide +kernel
theorem dX6_fraction_26 : decode cX6_fraction 26 = .ok (.lstore 7, 2) := by decide +kernel
theorem dX6_fraction_28 : decode cX6_fraction 28 = .ok (.goto (-22), 3) := by decide +kernel
theorem dX6_fraction_31 : decode cX6_fraction 31 = .ok (.aload_n 0, 1) := by decide +kernel
theorem dX6_fraction_32 : decode cX6_fraction 32 = .ok (.lload_n 1, 1) := by decide +kernel
theorem dX6_fraction_33 : decode cX6_fraction 33 = .ok (.lload 5, 2) := by decide +kernel
theorem dX6_fraction_35 : decode cX6_fraction 35 = .ok (.ldiv, 1) := by decide +kernel
theorem dX6_fraction_36 : decode cX6_fraction 36 = .ok (.putfield 61, 3) := by decide +kernel
theorem dX6_fraction_39 : decode cX6_fraction 39 = .ok (.aload_n 0, 1) := by decide +kernel
theorem dX6_fraction_40 : decode cX6_fraction 40 = .ok (.lload_n 3, 1) := by decide +kernel
theorem dX6_fraction_41 : decode cX6_fraction 41 = .ok (.lload 5, 2) := by decide +kernel
theorem dX6_fraction_43 : decode cX6_fraction 43 = .ok (.ldiv, 1) := by decide +kernel
theorem dX6_fraction_44 : decode cX6_fraction 44 = .ok (.putfield 13, 3) := by decide +kernel
theorem dX6_fraction_47 : decode cX6_fraction 47 = .ok (.iconst 1, 1) := by decide +kernel
theorem dX6_fraction_48 : decode cX6_fraction 48 = .ok (.ireturn, 1) := by decide +kernel
theorem dX6_isRow_0 : decode cX6_isRow 0 = .ok (.iload_n 0, 1) := by decide +kernel
theorem dX6_isRow_1 : decode cX6_isRow 1 = .ok (.iconst 0, 1) := by decide +kernel
theorem dX6_isRow_2 : decode cX6_isRow 2 = .ok (.iconst 5, 1) := by decide +kernel
theorem dX6_isRow_3 : decode cX6_isRow 3 = .ok (.invokestatic 64, 3) := by decide +kernel
theorem dX6_isRow_6 : decode cX6_isRow 6 = .ok (.ireturn, 1) := by decide +kernel
theorem dX6_isText_0 : decode cX6_isText 0 = .ok (.iload_n 0, 1) := by decide +kernel
theorem dX6_isText_1 : decode cX6_isText 1 = .ok (.iconst 0, 1) := by decide +kernel
theorem dX6_isText_2 : decode cX6_isText 2 = .ok (.iconst 3, 1) := by decide +kernel
theorem dX6_isText_3 : decode cX6_isText 3 = .ok (.invokestatic 64, 3) := by decide +kernel
theorem dX6_isText_6 : decode cX6_isText 6 = .ok (.ireturn, 1) := by decide +kernel
theorem dX6_row_0 : decode cX6_row 0 = .ok (.iload_n 1, 1) := by decide +kernel
theorem dX6_row_1 : decode cX6_row 1 = .ok (.invokestatic 68, 3) := by decide +kernel
theorem dX6_row_4 : decode cX6_row 4 = .ok (.ifCond .eq 9, 3) := by decide +kernel
theorem dX6_row_7 : decode cX6_row 7 = .ok (.iload_n 2, 1) := by decide +kernel
theorem dX6_row_8 : decode cX6_row 8 = .ok (.bipush 40, 2) := by decide +kernel
theorem dX6_row_10 : decode cX6_row 10 = .ok (.if_icmp .le 5, 3) := by decide +kernel
theorem dX6_row_13 : decode cX6_row 13 = .ok (.iconst (-1), 1) := by decide +kernel
theorem dX6_row_14 : decode cX6_row 14 = .ok (.ireturn, 1) := by decide +kernel
theorem dX6_row_15 : decode cX6_row 15 = .ok (.iload_n 2, 1) := by decide +kernel
theorem dX6_row_16 : decode cX6_row 16 = .ok (.ifCond .ge 9, 3) := by decide +kernel
theorem dX6_row_19 : decode cX6_row 19 = .ok (.aload_n 0, 1) := by decide +kernel
theorem dX6_row_20 : decode cX6_row 20 = .ok (.iconst 5, 1) := by decide +kernel
theorem dX6_row_21 : decode cX6_row 21 = .ok (.invokevirtual 72, 3) := by decide +kernel
theorem dX6_row_24 : decode cX6_row 24 = .ok (.ireturn, 1) := by decide +kernel
theorem dX6_row_25 : decode cX6_row 25 = .ok (.aload_n 0, 1) := by decide +kernel
theorem dX6_row_26 : decode cX6_row 26 = .ok (.getfield 17, 3) := by decide +kernel
theorem dX6_row_29 : decode cX6_row 29 = .ok (.iload_n 1, 1) := by decide +kernel
theorem dX6_row_30 : decode cX6_row 30 = .ok (.iload_n 2, 1) := by decide +kernel
theorem dX6_row_31 : decode cX6_row 31 = .ok (.iastore, 1) := by decide +kernel
theorem dX6_row_32 : decode cX6_row 32 = .ok (.iconst 0, 1) := by decide +kernel
theorem dX6_row_33 : decode cX6_row 33 = .ok (.istore_n 3, 1) := by decide +kernel
theorem dX6_row_34 : decode cX6_row 34 = .ok (.iload_n 3, 1) := by decide +kernel
theorem dX6_row_35 : decode cX6_row 35 = .ok (.bipush 40, 2) := by decide +kernel
theorem dX6_row_37 : decode cX6_row 37 = .ok (.if_icmp .ge 21, 3) := by decide +kernel
theorem dX6_row_40 : decode cX6_row 40 = .ok (.aload_n 0, 1) := by decide +kernel
theorem dX6_row_41 : decode cX6_row 41 = .ok (.getfield 20, 3) := by decide +kernel
theorem dX6_row_44 : decode cX6_row 44 = .ok (.bipush 40, 2) := by decide +kernel
theorem dX6_row_46 : decode cX6_row 46 = .ok (.iload_n 1, 1) := by decide +kernel
theorem dX6_row_47 : decode cX6_row 47 = .ok (.imul, 1) := by decide +kernel
theorem dX6_row_48 : decode cX6_row 48 = .ok (.iload_n 3, 1) := by decide +kernel
theorem dX6_row_49 : decode cX6_row 49 = .ok (.iadd, 1) := by decide +kernel
theorem dX6_row_50 : decode cX6_row 50 = .ok (.iconst 0, 1) := by decide +kernel
theorem dX6_row_51 : decode cX6_row 51 = .ok (.iastore, 1) := by decide +kernel
theorem dX6_row_52 : decode cX6_row 52 = .ok (.iinc 3 1, 3) := by decide +kernel
theorem dX6_row_55 : decode cX6_row 55 = .ok (.goto (-21), 3) := by decide +kernel
theorem dX6_row_58 : decode cX6_row 58 = .ok (.iload_n 2, 1) := by decide +kernel
theorem dX6_row_59 : decode cX6_row 59 = .ok (.ireturn, 1) := by decide +kernel
theorem dX6_lay_0 : decode cX6_lay 0 = .ok (.iload_n 1, 1) := by decide +kernel
theorem dX6_lay_1 : decode cX6_lay 1 = .ok (.invokestatic 68, 3) := by decide +kernel
theorem dX6_lay_4 : decode cX6_lay 4 = .ok (.ifCond .ne 5, 3) := by decide +kernel
theorem dX6_lay_7 : decode cX6_lay 7 = .ok (.iconst (-1), 1) := by decide +kernel
theorem dX6_lay_8 : decode cX6_lay 8 = .ok (.ireturn, 1) := by decide +kernel
theorem dX6_lay_9 : decode cX6_lay 9 = .ok (.aload_n 0, 1) := by decide +kernel
theorem dX6_lay_10 : decode cX6_lay 10 = .ok (.getfield 17, 3) := by decide +kernel
theorem dX6_lay_13 : decode cX6_lay 13 = .ok (.iload_n 1, 1) := by decide +kernel
theorem dX6_lay_14 : decode cX6_lay 14 = .ok (.iaload, 1) := by decide +kernel
theorem dX6_lay_15 : decode cX6_lay 15 = .ok (.ifCond .ge 9, 3) := by decide +kernel
theorem dX6_lay_18 : decode cX6_lay 18 = .ok (.aload_n 0, 1) := by decide +kernel
theorem dX6_lay_19 : decode cX6_lay 19 = .ok (.iconst 1, 1) := by decide +kernel
theorem dX6_lay_20 : decode cX6_lay 20 = .ok (.invokevirtual 72, 3) := by decide +kernel
theorem dX6_lay_23 : decode cX6_lay 23 = .ok (.ireturn, 1) := by decide +kernel
theorem dX6_lay_24 : decode cX6_lay 24 = .ok (.iload_n 2, 1) := by decide +kernel
theorem dX6_lay_25 : decode cX6_lay 25 = .ok (.iconst 0, 1) := by decide +kernel
theorem dX6_lay_26 : decode cX6_lay 26 = .ok (.aload_n 0, 1) := by decide +kernel
theorem dX6_lay_27 : decode cX6_lay 27 = .ok (.getfield 17, 3) := by decide +kernel
theorem dX6_lay_30 : decode cX6_lay 30 = .ok (.iload_n 1, 1) := by decide +kernel
theorem dX6_lay_31 : decode cX6_lay 31 = .ok (.iaload, 1) := by decide +kernel
theorem dX6_lay_32 : decode cX6_lay 32 = .ok (.iconst 1, 1) := by decide +kernel
theorem dX6_lay_33 : decode cX6_lay 33 = .ok (.isub, 1) := by decide +kernel
theorem dX6_lay_34 : decode cX6_lay 34 = .ok (.invokestatic 64, 3) := by decide +kernel
theorem dX6_lay_37 : decode cX6_lay 37 = .ok (.ifCond .ne 9, 3) := by decide +kernel
theorem dX6_lay_40 : decode cX6_lay 40 = .ok (.aload_n 0, 1) := by decide +kernel
theorem dX6_lay_41 : decode cX6_lay 41 = .ok (.iconst 2, 1) := by decide +kernel
theorem dX6_lay_42 : decode cX6_lay 42 = .ok (.invokevirtual 72, 3) := by decide +kernel
theorem dX6_lay_45 : decode cX6_lay 45 = .ok (.ireturn, 1) := by decide +kernel
theorem dX6_lay_46 : decode cX6_lay 46 = .ok (.aload_n 0, 1) := by decide +kernel
theorem dX6_lay_47 : decode cX6_lay 47 = .ok (.getfield 20, 3) := by decide +kernel
theorem dX6_lay_50 : decode cX6_lay 50 = .ok (.bipush 40, 2) := by decide +kernel
theorem dX6_lay_52 : decode cX6_lay 52 = .ok (.iload_n 1, 1) := by decide +kernel
theorem dX6_lay_53 : decode cX6_lay 53 = .ok (.imul, 1) := by decide +kernel
theorem dX6_lay_54 : decode cX6_lay 54 = .ok (.iload_n 2, 1) := by decide +kernel
theorem dX6_lay_55 : decode cX6_lay 55 = .ok (.iadd, 1) := by decide +kernel
theorem dX6_lay_56 : decode cX6_lay 56 = .ok (.iaload, 1) := by decide +kernel
theorem dX6_lay_57 : decode cX6_lay 57 = .ok (.istore 4, 2) := by decide +kernel
theorem dX6_lay_59 : decode cX6_lay 59 = .ok (.aload_n 0, 1) := by decide +kernel
theorem dX6_lay_60 : decode cX6_lay 60 = .ok (.getfield 20, 3) := by decide +kernel
theorem dX6_lay_63 : decode cX6_lay 63 = .ok (.bipush 40, 2) := by decide +kernel
theorem dX6_lay_65 : decode cX6_lay 65 = .ok (.iload_n 1, 1) := by decide +kernel
theorem dX6_lay_66 : decode cX6_lay 66 = .ok (.imul, 1) := by decide +kernel
theorem dX6_lay_67 : decode cX6_lay 67 = .ok (.iload_n 2, 1) := by decide +kernel
theorem dX6_lay_68 : decode cX6_lay 68 = .ok (.iadd, 1) := by decide +kernel
theorem dX6_lay_69 : decode cX6_lay 69 = .ok (.iload_n 3, 1) := by decide +kernel
theorem dX6_lay_70 : decode cX6_lay 70 = .ok (.iastore, 1) := by decide +kernel
theorem dX6_lay_71 : decode cX6_lay 71 = .ok (.aload_n 0, 1) := by decide +kernel
theorem dX6_lay_72 : decode cX6_lay 72 = .ok (.iload 4, 2) := by decide +kernel
theorem dX6_lay_74 : decode cX6_lay 74 = .ok (.invokevirtual 76, 3) := by decide +kernel
theorem dX6_lay_77 : decode cX6_lay 77 = .ok (.ireturn, 1) := by decide +kernel
theorem dX6_at_0 : decode cX6_at 0 = .ok (.iload_n 1, 1) := by decide +kernel
theorem dX6_at_1 : decode cX6_at 1 = .ok (.invokestatic 68, 3) := by decide +kernel
theorem dX6_at_4 : decode cX6_at 4 = .ok (.ifCond .ne 5, 3) := by decide +kernel
theorem dX6_at_7 : decode cX6_at 7 = .ok (.iconst (-1), 1) := by decide +kernel
theorem dX6_at_8 : decode cX6_at 8 = .ok (.ireturn, 1) := by decide +kernel
theorem dX6_at_9 : decode cX6_at 9 = .ok (.aload_n 0, 1) := by decide +kernel
theorem dX6_at_10 : decode cX6_at 10 = .ok (.getfield 17, 3) := by decide +kernel
theorem dX6_at_13 : decode cX6_at 13 = .ok (.iload_n 1, 1) := by decide +kernel
theorem dX6_at_14 : decode cX6_at 14 = .ok (.iaload, 1) := by decide +kernel
theorem dX6_at_15 : decode cX6_at 15 = .ok (.ifCond .ge 9, 3) := by decide +kernel
theorem dX6_at_18 : decode cX6_at 18 = .ok (.aload_n 0, 1) := by decide +kernel
theorem dX6_at_19 : decode cX6_at 19 = .ok (.iconst 1, 1) := by decide +kernel
theorem dX6_at_20 : decode cX6_at 20 = .ok (.invokevirtual 72, 3) := by decide +kernel
theorem dX6_at_23 : decode cX6_at 23 = .ok (.ireturn, 1) := by decide +kernel
theorem dX6_at_24 : decode cX6_at 24 = .ok (.iload_n 2, 1) := by decide +kernel
theorem dX6_at_25 : decode cX6_at 25 = .ok (.iconst 0, 1) := by decide +kernel
theorem dX6_at_26 : decode cX6_at 26 = .ok (.aload_n 0, 1) := by decide +kernel
theorem dX6_at_27 : decode cX6_at 27 = .ok (.getfield 17, 3) := by decide +kernel
theorem dX6_at_30 : decode cX6_at 30 = .ok (.iload_n 1, 1) := by decide +kernel
theorem dX6_at_31 : decode cX6_at 31 = .ok (.iaload, 1) := by decide +kernel
theorem dX6_at_32 : decode cX6_at 32 = .ok (.iconst 1, 1) := by decide +kernel
theorem dX6_at_33 : decode cX6_at 33 = .ok (.isub, 1) := by decide +kernel
theorem dX6_at_34 : decode cX6_at 34 = .ok (.invokestatic 64, 3) := by decide +kernel
theorem dX6_at_37 : decode cX6_at 37 = .ok (.ifCond .eq 21, 3) := by decide +kernel
theorem dX6_at_40 : decode cX6_at 40 = .ok (.aload_n 0, 1) := by decide +kernel
theorem dX6_at_41 : decode cX6_at 41 = .ok (.aload_n 0, 1) := by decide +kernel
theorem dX6_at_42 : decode cX6_at 42 = .ok (.getfield 20, 3) := by decide +kernel
theorem dX6_at_45 : decode cX6_at 45 = .ok (.bipush 40, 2) := by decide +kernel
theorem dX6_at_47 : decode cX6_at 47 = .ok (.iload_n 1, 1) := by decide +kernel
theorem dX6_at_48 : decode cX6_at 48 = .ok (.imul, 1) := by decide +kernel
theorem dX6_at_49 : decode cX6_at 49 = .ok (.iload_n 2, 1) := by decide +kernel
theorem dX6_at_50 : decode cX6_at 50 = .ok (.iadd, 1) := by decide +kernel
theorem dX6_at_51 : decode cX6_at 51 = .ok (.iaload, 1) := by decide +kernel
theorem dX6_at_52 : decode cX6_at 52 = .ok (.invokevirtual 76, 3) := by decide +kernel
theorem dX6_at_55 : decode cX6_at 55 = .ok (.goto 8, 3) := by decide +kernel
theorem dX6_at_58 : decode cX6_at 58 = .ok (.aload_n 0, 1) := by decide +kernel
theorem dX6_at_59 : decode cX6_at 59 = .ok (.iconst 2, 1) := by decide +kernel
theorem dX6_at_60 : decode cX6_at 60 = .ok (.invokevirtual 72, 3) := by decide +kernel
theorem dX6_at_63 : decode cX6_at 63 = .ok (.ireturn, 1) := by decide +kernel
theorem dX6_tear_0 : decode cX6_tear 0 = .ok (.iload_n 1, 1) := by decide +kernel
theorem dX6_tear_1 : decode cX6_tear 1 = .ok (.invokestatic 68, 3) := by decide +kernel
theorem dX6_tear_4 : decode cX6_tear 4 = .ok (.ifCond .ne 5, 3) := by decide +kernel
theorem dX6_tear_7 : decode cX6_tear 7 = .ok (.iconst (-1), 1) := by decide +kernel
theorem dX6_tear_8 : decode cX6_tear 8 = .ok (.ireturn, 1) := by decide +kernel
theorem dX6_tear_9 : decode cX6_tear 9 = .ok (.aload_n 0, 1) := by decide +kernel
theorem dX6_tear_10 : decode cX6_tear 10 = .ok (.getfield 17, 3) := by decide +kernel
theorem dX6_tear_13 : decode cX6_tear 13 = .ok (.iload_n 1, 1) := by decide +kernel
theorem dX6_tear_14 : decode cX6_tear 14 = .ok (.iaload, 1) := by decide +kernel
theorem dX6_tear_15 : decode cX6_tear 15 = .ok (.ifCond .ge 9, 3) := by decide +kernel
theorem dX6_tear_18 : decode cX6_tear 18 = .ok (.aload_n 0, 1) := by decide +kernel
theorem dX6_tear_19 : decode cX6_tear 19 = .ok (.iconst 1, 1) := by decide +kernel
theorem dX6_tear_20 : decode cX6_tear 20 = .ok (.invokevirtual 72, 3) := by decide +kernel
theorem dX6_tear_23 : decode cX6_tear 23 = .ok (.ireturn, 1) := by decide +kernel
theorem dX6_tear_24 : decode cX6_tear 24 = .ok (.aload_n 0, 1) := by decide +kernel
theorem dX6_tear_25 : decode cX6_tear 25 = .ok (.getfield 17, 3) := by decide +kernel
theorem dX6_tear_28 : decode cX6_tear 28 = .ok (.iload_n 1, 1) := by decide +kernel
theorem dX6_tear_29 : decode cX6_tear 29 = .ok (.iconst (-1), 1) := by decide +kernel
theorem dX6_tear_30 : decode cX6_tear 30 = .ok (.iastore, 1) := by decide +kernel
theorem dX6_tear_31 : decode cX6_tear 31 = .ok (.iconst 1, 1) := by decide +kernel
theorem dX6_tear_32 : decode cX6_tear 32 = .ok (.ireturn, 1) := by decide +kernel
theorem dX6_copy_0 : decode cX6_copy 0 = .ok (.iload_n 1, 1) := by decide +kernel
theorem dX6_copy_1 : decode cX6_copy 1 = .ok (.invokestatic 68, 3) := by decide +kernel
theorem dX6_copy_4 : decode cX6_copy 4 = .ok (.ifCond .eq 10, 3) := by decide +kernel
theorem dX6_copy_7 : decode cX6_copy 7 = .ok (.iload_n 3, 1) := by decide +kernel
theorem dX6_copy_8 : decode cX6_copy 8 = .ok (.invokestatic 68, 3) := by decide +kernel
theorem dX6_copy_11 : decode cX6_copy 11 = .ok (.ifCond .ne 5, 3) := by decide +kernel
theorem dX6_copy_14 : decode cX6_copy 14 = .ok (.iconst (-1), 1) := by decide +kernel
theorem dX6_copy_15 : decode cX6_copy 15 = .ok (.ireturn, 1) := by decide +kernel
theorem dX6_copy_16 : decode cX6_copy 16 = .ok (.iload 5, 2) := by decide +kernel
theorem dX6_copy_18 : decode cX6_copy 18 = .ok (.ifCond .ge 9, 3) := by decide +kernel
theorem dX6_copy_21 : decode cX6_copy 21 = .ok (.aload_n 0, 1) := by decide +kernel
theorem dX6_copy_22 : decode cX6_copy 22 = .ok (.iconst 5, 1) := by decide +kernel
theorem dX6_copy_23 : decode cX6_copy 23 = .ok (.invokevirtual 72, 3) := by decide +kernel
theorem dX6_copy_26 : decode cX6_copy 26 = .ok (.ireturn, 1) := by decide +kernel
theorem dX6_copy_27 : decode cX6_copy 27 = .ok (.aload_n 0, 1) := by decide +kernel
theorem dX6_copy_28 : decode cX6_copy 28 = .ok (.getfield 17, 3) := by decide +kernel
theorem dX6_copy_31 : decode cX6_copy 31 = .ok (.iload_n 1, 1) := by decide +kernel
theorem dX6_copy_32 : decode cX6_copy 32 = .ok (.iaload, 1) := by decide +kernel
theorem dX6_copy_33 : decode cX6_copy 33 = .ok (.ifCond .lt 12, 3) := by decide +kernel
theorem dX6_copy_36 : decode cX6_copy 36 = .ok (.aload_n 0, 1) := by decide +kernel
theorem dX6_copy_37 : decode cX6_copy 37 = .ok (.getfield 17, 3) := by decide +kernel
theorem dX6_copy_40 : decode cX6_copy 40 = .ok (.iload_n 3, 1) := by decide +kernel
theorem dX6_copy_41 : decode cX6_copy 41 = .ok (.iaload, 1) := by decide +kernel
theorem dX6_copy_42 : decode cX6_copy 42 = .ok (.ifCond .ge 9, 3) := by decide +kernel
theorem dX6_copy_45 : decode cX6_copy 45 = .ok (.aload_n 0, 1) := by decide +kernel
theorem dX6_copy_46 : decode cX6_copy 46 = .ok (.iconst 1, 1) := by decide +kernel
theorem dX6_copy_47 : decode cX6_copy 47 = .ok (.invokevirtual 72, 3) := by decide +kernel
theorem dX6_copy_50 : decode cX6_copy 50 = .ok (.ireturn, 1) := by decide +kernel
theorem dX6_copy_51 : decode cX6_copy 51 = .ok (.iload_n 2, 1) := by decide +kernel
theorem dX6_copy_52 : decode cX6_copy 52 = .ok (.ifCond .lt 35, 3) := by decide +kernel
theorem dX6_copy_55 : decode cX6_copy 55 = .ok (.iload_n 2, 1) := by decide +kernel
theorem dX6_copy_56 : decode cX6_copy 56 = .ok (.aload_n 0, 1) := by decide +kernel
theorem dX6_copy_57 : decode cX6_copy 57 = .ok (.getfield 17, 3) := by decide +kernel
theorem dX6_copy_60 : decode cX6_copy 60 = .ok (.iload_n 1, 1) := by decide +kernel
theorem dX6_copy_61 : decode cX6_copy 61 = .ok (.iaload, 1) := by decide +kernel
theorem dX6_copy_62 : decode cX6_copy 62 = .ok (.iload 5, 2) := by decide +kernel
theorem dX6_copy_64 : decode cX6_copy 64 = .ok (.isub, 1) := by decide +kernel
theorem dX6_copy_65 : decode cX6_copy 65 = .ok (.if_icmp .gt 22, 3) := by decide +kernel
theorem dX6_copy_68 : decode cX6_copy 68 = .ok (.iload 4, 2) := by decide +kernel
theorem dX6_copy_70 : decode cX6_copy 70 = .ok (.ifCond .lt 17, 3) := by decide +kernel
theorem dX6_copy_73 : decode cX6_copy 73 = .ok (.iload 4, 2) := by decide +kernel
theorem dX6_copy_75 : decode cX6_copy 75 = .ok (.aload_n 0, 1) := by decide +kernel
theorem dX6_copy_76 : decode cX6_copy 76 = .ok (.getfield 17, 3) := by decide +kernel
theorem dX6_copy_79 : decode cX6_copy 79 = .ok (.iload_n 3, 1) := by decide +kernel
theorem dX6_copy_80 : decode cX6_copy 80 = .ok (.iaload, 1) := by decide +kernel
theorem dX6_copy_81 : decode cX6_copy 81 = .ok (.iload 5, 2) := by decide +kernel
theorem dX6_copy_83 : decode cX6_copy 83 = .ok (.isub, 1) := by decide +kernel
theorem dX6_copy_84 : decode cX6_copy 84 = .ok (.if_icmp .le 9, 3) := by decide +kernel
theorem dX6_copy_87 : decode cX6_copy 87 = .ok (.aload_n 0, 1) := by decide +kernel
theorem dX6_copy_88 : decode cX6_copy 88 = .ok (.iconst 2, 1) := by decide +kernel
theorem dX6_copy_89 : decode cX6_copy 89 = .ok (.invokevirtual 72, 3) := by decide +kernel
theorem dX6_copy_92 : decode cX6_copy 92 = .ok (.ireturn, 1) := by decide +kernel
theorem dX6_copy_93 : decode cX6_copy 93 = .ok (.iconst 0, 1) := by decide +kernel
theorem dX6_copy_94 : decode cX6_copy 94 = .ok (.istore 6, 2) := by decide +kernel
theorem dX6_copy_96 : decode cX6_copy 96 = .ok (.iload 6, 2) := by decide +kernel
theorem dX6_copy_98 : decode cX6_copy 98 = .ok (.iload 5, 2) := by decide +kernel
theorem dX6_copy_100 : decode cX6_copy 100 = .ok (.if_icmp .ge 30, 3) := by decide +kernel
theorem dX6_copy_103 : decode cX6_copy 103 = .ok (.aload_n 0, 1) := by decide +kernel
theorem dX6_copy_104 : decode cX6_copy 104 = .ok (.getfield 30, 3) := by decide +kernel
theorem dX6_copy_107 : decode cX6_copy 107 = .ok (.iload 6, 2) := by decide +kernel
theorem dX6_copy_109 : decode cX6_copy 109 = .ok (.aload_n 0, 1) := by decide +kernel
theorem dX6_copy_110 : decode cX6_copy 110 = .ok (.getfield 20, 3) := by decide +kernel
theorem dX6_copy_113 : decode cX6_copy 113 = .ok (.bipush 40, 2) := by decide +kernel
theorem dX6_copy_115 : decode cX6_copy 115 = .ok (.iload_n 1, 1) := by decide +kernel
theorem dX6_copy_116 : decode cX6_copy 116 = .ok (.imul, 1) := by decide +kernel
theorem dX6_copy_117 : decode cX6_copy 117 = .ok (.iload_n 2, 1) := by decide +kernel
theorem dX6_copy_118 : decode cX6_copy 118 = .ok (.iadd, 1) := by decide +kernel
theorem dX6_copy_119 : decode cX6_copy 119 = .ok (.iload 6, 2) := by decide +kernel
theorem dX6_copy_121 : decode cX6_copy 121 = .ok (.iadd, 1) := by decide +kernel
theorem dX6_copy_122 : decode cX6_copy 122 = .ok (.iaload, 1) := by decide +kernel
theorem dX6_copy_123 : decode cX6_copy 123 = .ok (.iastore, 1) := by decide +kernel
theorem dX6_copy_124 : decode cX6_copy 124 = .ok (.iinc 6 1, 3) := by decide +kernel
theorem dX6_copy_127 : decode cX6_copy 127 = .ok (.goto (-31), 3) := by decide +kernel
theorem dX6_copy_130 : decode cX6_copy 130 = .ok (.iconst 0, 1) := by decide +kernel
theorem dX6_copy_131 : decode cX6_copy 131 = .ok (.istore 6, 2) := by decide +kernel
theorem dX6_copy_133 : decode cX6_copy 133 = .ok (.iload 6, 2) := by decide +kernel
theorem dX6_copy_135 : decode cX6_copy 135 = .ok (.iload 5, 2) := by decide +kernel
theorem dX6_copy_137 : decode cX6_copy 137 = .ok (.if_icmp .ge 31, 3) := by decide +kernel
theorem dX6_copy_140 : decode cX6_copy 140 = .ok (.aload_n 0, 1) := by decide +kernel
theorem dX6_copy_141 : decode cX6_copy 141 = .ok (.getfield 20, 3) := by decide +kernel
theorem dX6_copy_144 : decode cX6_copy 144 = .ok (.bipush 40, 2) := by decide +kernel
theorem dX6_copy_146 : decode cX6_copy 146 = .ok (.iload_n 3, 1) := by decide +kernel
theorem dX6_copy_147 : decode cX6_copy 147 = .ok (.imul, 1) := by decide +kernel
theorem dX6_copy_148 : decode cX6_copy 148 = .ok (.iload 4, 2) := by decide +kernel
theorem dX6_copy_150 : decode cX6_copy 150 = .ok (.iadd, 1) := by decide +kernel
theorem dX6_copy_151 : decode cX6_copy 151 = .ok (.iload 6, 2) := by decide +kernel
theorem dX6_copy_153 : decode cX6_copy 153 = .ok (.iadd, 1) := by decide +kernel
theorem dX6_copy_154 : decode cX6_copy 154 = .ok (.aload_n 0, 1) := by decide +kernel
theorem dX6_copy_155 : decode cX6_copy 155 = .ok (.getfield 30, 3) := by decide +kernel
theorem dX6_copy_158 : decode cX6_copy 158 = .ok (.iload 6, 2) := by decide +kernel
theorem dX6_copy_160 : decode cX6_copy 160 = .ok (.iaload, 1) := by decide +kernel
theorem dX6_copy_161 : decode cX6_copy 161 = .ok (.iastore, 1) := by decide +kernel
theorem dX6_copy_162 : decode cX6_copy 162 = .ok (.iinc 6 1, 3) := by decide +kernel
theorem dX6_copy_165 : decode cX6_copy 165 = .ok (.goto (-32), 3) := by decide +kernel
theorem dX6_copy_168 : decode cX6_copy 168 = .ok (.iconst 1, 1) := by decide +kernel
theorem dX6_copy_169 : decode cX6_copy 169 = .ok (.ireturn, 1) := by decide +kernel
theorem dX6_mean_0 : decode cX6_mean 0 = .ok (.iload_n 1, 1) := by decide +kernel
theorem dX6_mean_1 : decode cX6_mean 1 = .ok (.invokestatic 68, 3) := by decide +kernel
theorem dX6_mean_4 : decode cX6_mean 4 = .ok (.ifCond .ne 5, 3) := by decide +kernel
theorem dX6_mean_7 : decode cX6_mean 7 = .ok (.iconst (-1), 1) := by decide +kernel
theorem dX6_mean_8 : decode cX6_mean 8 = .ok (.ireturn, 1) := by decide +kernel
theorem dX6_mean_9 : decode cX6_mean 9 = .ok (.aload_n 0, 1) := by decide +kernel
theorem dX6_mean_10 : decode cX6_mean 10 = .ok (.getfield 17, 3) := by decide +kernel
theorem dX6_mean_13 : decode cX6_mean 13 = .ok (.iload_n 1, 1) := by decide +kernel
theorem dX6_mean_14 : decode cX6_mean 14 = .ok (.iaload, 1) := by decide +kernel
theorem dX6_mean_15 : decode cX6_mean 15 = .ok (.ifCond .ge 9, 3) := by decide +kernel
theorem dX6_mean_18 : decode cX6_mean 18 = .ok (.aload_n 0, 1) := by decide +kernel
theorem dX6_mean_19 : decode cX6_mean 19 = .ok (.iconst 1, 1) := by decide +kernel
theorem dX6_mean_20 : decode cX6_mean 20 = .ok (.invokevirtual 72, 3) := by decide +kernel
theorem dX6_mean_23 : decode cX6_mean 23 = .ok (.ireturn, 1) := by decide +kernel
theorem dX6_mean_24 : decode cX6_mean 24 = .ok (.aload_n 0, 1) := by decide +kernel
theorem dX6_mean_25 : decode cX6_mean 25 = .ok (.getfield 17, 3) := by decide +kernel
theorem dX6_mean_28 : decode cX6_mean 28 = .ok (.iload_n 1, 1) := by decide +kernel
theorem dX6_mean_29 : decode cX6_mean 29 = .ok (.iaload, 1) := by decide +kernel
theorem dX6_mean_30 : decode cX6_mean 30 = .ok (.ifCond .ne 9, 3) := by decide +kernel
theorem dX6_mean_33 : decode cX6_mean 33 = .ok (.aload_n 0, 1) := by decide +kernel
theorem dX6_mean_34 : decode cX6_mean 34 = .ok (.iconst 4, 1) := by decide +kernel
theorem dX6_mean_35 : decode cX6_mean 35 = .ok (.invokevirtual 72, 3) := by decide +kernel
theorem dX6_mean_38 : decode cX6_mean 38 = .ok (.ireturn, 1) := by decide +kernel
theorem dX6_mean_39 : decode cX6_mean 39 = .ok (.lconst 0, 1) := by decide +kernel
theorem dX6_mean_40 : decode cX6_mean 40 = .ok (.lstore_n 2, 1) := by decide +kernel
theorem dX6_mean_41 : decode cX6_mean 41 = .ok (.iconst 0, 1) := by decide +kernel
theorem dX6_mean_42 : decode cX6_mean 42 = .ok (.istore 4, 2) := by decide +kernel
theorem dX6_mean_44 : decode cX6_mean 44 = .ok (.iload 4, 2) := by decide +kernel
theorem dX6_mean_46 : decode cX6_mean 46 = .ok (.aload_n 0, 1) := by decide +kernel
theorem dX6_mean_47 : decode cX6_mean 47 = .ok (.getfield 17, 3) := by decide +kernel
theorem dX6_mean_50 : decode cX6_mean 50 = .ok (.iload_n 1, 1) := by decide +kernel
theorem dX6_mean_51 : decode cX6_mean 51 = .ok (.iaload, 1) := by decide +kernel
theorem dX6_mean_52 : decode cX6_mean 52 = .ok (.if_icmp .ge 25, 3) := by decide +kernel
theorem dX6_mean_55 : decode cX6_mean 55 = .ok (.lload_n 2, 1) := by decide +kernel
theorem dX6_mean_56 : decode cX6_mean 56 = .ok (.aload_n 0, 1) := by decide +kernel
theorem dX6_mean_57 : decode cX6_mean 57 = .ok (.getfield 20, 3) := by decide +kernel
theorem dX6_mean_60 : decode cX6_mean 60 = .ok (.bipush 40, 2) := by decide +kernel
theorem dX6_mean_62 : decode cX6_mean 62 = .ok (.iload_n 1, 1) := by decide +kernel
theorem dX6_mean_63 : decode cX6_mean 63 = .ok (.imul, 1) := by decide +kernel
theorem dX6_mean_64 : decode cX6_mean 64 = .ok (.iload 4, 2) := by decide +kernel
theorem dX6_mean_66 : decode cX6_mean 66 = .ok (.iadd, 1) := by decide +kernel
theorem dX6_mean_67 : decode cX6_mean 67 = .ok (.iaload, 1) := by decide +kernel
theorem dX6_mean_68 : decode cX6_mean 68 = .ok (.i2l, 1) := by decide +kernel
theorem dX6_mean_69 : decode cX6_mean 69 = .ok (.ladd, 1) := by decide +kernel
theorem dX6_mean_70 : decode cX6_mean 70 = .ok (.lstore_n 2, 1) := by decide +kernel
theorem dX6_mean_71 : decode cX6_mean 71 = .ok (.iinc 4 1, 3) := by decide +kernel
theorem dX6_mean_74 : decode cX6_mean 74 = .ok (.goto (-30), 3) := by decide +kernel
theorem dX6_mean_77 : decode cX6_mean 77 = .ok (.aload_n 0, 1) := by decide +kernel
theorem dX6_mean_78 : decode cX6_mean 78 = .ok (.lload_n 2, 1) := by decide +kernel
theorem dX6_mean_79 : decode cX6_mean 79 = .ok (.aload_n 0, 1) := by decide +kernel
theorem dX6_mean_80 : decode cX6_mean 80 = .ok (.getfield 17, 3) := by decide +kernel
theorem dX6_mean_83 : decode cX6_mean 83 = .ok (.iload_n 1, 1) := by decide +kernel
theorem dX6_mean_84 : decode cX6_mean 84 = .ok (.iaload, 1) := by decide +kernel
theorem dX6_mean_85 : decode cX6_mean 85 = .ok (.i2l, 1) := by decide +kernel
theorem dX6_mean_86 : decode cX6_mean 86 = .ok (.ldiv, 1) := by decide +kernel
theorem dX6_mean_87 : decode cX6_mean 87 = .ok (.l2i, 1) := by decide +kernel
theorem dX6_mean_88 : decode cX6_mean 88 = .ok (.invokevirtual 76, 3) := by decide +kernel
theorem dX6_mean_91 : decode cX6_mean 91 = .ok (.ireturn, 1) := by decide +kernel
theorem dX6_text_0 : decode cX6_text 0 = .ok (.iload_n 1, 1) := by decide +kernel
theorem dX6_text_1 : decode cX6_text 1 = .ok (.invokestatic 79, 3) := by decide +kernel
theorem dX6_text_4 : decode cX6_text 4 = .ok (.ifCond .eq 9, 3) := by decide +kernel
theorem dX6_text_7 : decode cX6_text 7 = .ok (.iload_n 2, 1) := by decide +kernel
theorem dX6_text_8 : decode cX6_text 8 = .ok (.bipush 60, 2) := by decide +kernel
theorem dX6_text_10 : decode cX6_text 10 = .ok (.if_icmp .le 5, 3) := by decide +kernel
theorem dX6_text_13 : decode cX6_text 13 = .ok (.iconst (-1), 1) := by decide +kernel
theorem dX6_text_14 : decode cX6_text 14 = .ok (.ireturn, 1) := by decide +kernel
theorem dX6_text_15 : decode cX6_text 15 = .ok (.iload_n 2, 1) := by decide +kernel
theorem dX6_text_16 : decode cX6_text 16 = .ok (.ifCond .ge 9, 3) := by decide +kernel
theorem dX6_text_19 : decode cX6_text 19 = .ok (.aload_n 0, 1) := by decide +kernel
theorem dX6_text_20 : decode cX6_text 20 = .ok (.iconst 5, 1) := by decide +kernel
theorem dX6_text_21 : decode cX6_text 21 = .ok (.invokevirtual 72, 3) := by decide +kernel
theorem dX6_text_24 : decode cX6_text 24 = .ok (.ireturn, 1) := by decide +kernel
theorem dX6_text_25 : decode cX6_text 25 = .ok (.aload_n 0, 1) := by decide +kernel
theorem dX6_text_26 : decode cX6_text 26 = .ok (.getfield 23, 3) := by decide +kernel
theorem dX6_text_29 : decode cX6_text 29 = .ok (.iload_n 1, 1) := by decide +kernel
theorem dX6_text_30 : decode cX6_text 30 = .ok (.iload_n 2, 1) := by decide +kernel
theorem dX6_text_31 : decode cX6_text 31 = .ok (.iastore, 1) := by decide +kernel
theorem dX6_text_32 : decode cX6_text 32 = .ok (.iconst 0, 1) := by decide +kernel
theorem dX6_text_33 : decode cX6_text 33 = .ok (.istore_n 3, 1) := by decide +kernel
theorem dX6_text_34 : decode cX6_text 34 = .ok (.iload_n 3, 1) := by decide +kernel
theorem dX6_text_35 : decode cX6_text 35 = .ok (.bipush 60, 2) := by decide +kernel
theorem dX6_text_37 : decode cX6_text 37 = .ok (.if_icmp .ge 22, 3) := by decide +kernel
theorem dX6_text_40 : decode cX6_text 40 = .ok (.aload_n 0, 1) := by decide +kernel
theorem dX6_text_41 : decode cX6_text 41 = .ok (.getfield 26, 3) := by decide +kernel
theorem dX6_text_44 : decode cX6_text 44 = .ok (.bipush 60, 2) := by decide +kernel
theorem dX6_text_46 : decode cX6_text 46 = .ok (.iload_n 1, 1) := by decide +kernel
theorem dX6_text_47 : decode cX6_text 47 = .ok (.imul, 1) := by decide +kernel
theorem dX6_text_48 : decode cX6_text 48 = .ok (.iload_n 3, 1) := by decide +kernel
theorem dX6_text_49 : decode cX6_text 49 = .ok (.iadd, 1) := by decide +kernel
theorem dX6_text_50 : decode cX6_text 50 = .ok (.bipush 32, 2) := by decide +kernel
theorem dX6_text_52 : decode cX6_text 52 = .ok (.bastore, 1) := by decide +kernel
theorem dX6_text_53 : decode cX6_text 53 = .ok (.iinc 3 1, 3) := by decide +kernel
theorem dX6_text_56 : decode cX6_text 56 = .ok (.goto (-22), 3) := by decide +kernel
theorem dX6_text_59 : decode cX6_text 59 = .ok (.iload_n 2, 1) := by decide +kernel
theorem dX6_text_60 : decode cX6_text 60 = .ok (.ireturn, 1) := by decide +kernel
theorem dX6_put_0 : decode cX6_put 0 = .ok (.iload_n 1, 1) := by decide +kernel
theorem dX6_put_1 : decode cX6_put 1 = .ok (.invokestatic 79, 3) := by decide +kernel
theorem dX6_put_4 : decode cX6_put 4 = .ok (.ifCond .ne 5, 3) := by decide +kernel
theorem dX6_put_7 : decode cX6_put 7 = .ok (.iconst (-1), 1) := by decide +kernel
theorem dX6_put_8 : decode cX6_put 8 = .ok (.ireturn, 1) := by decide +kernel
theorem dX6_put_9 : decode cX6_put 9 = .ok (.aload_n 0, 1) := by decide +kernel
theorem dX6_put_10 : decode cX6_put 10 = .ok (.getfield 23, 3) := by decide +kernel
theorem dX6_put_13 : decode cX6_put 13 = .ok (.iload_n 1, 1) := by decide +kernel
theorem dX6_put_14 : decode cX6_put 14 = .ok (.iaload, 1) := by decide +kernel
theorem dX6_put_15 : decode cX6_put 15 = .ok (.ifCond .ge 9, 3) := by decide +kernel
theorem dX6_put_18 : decode cX6_put 18 = .ok (.aload_n 0, 1) := by decide +kernel
theorem dX6_put_19 : decode cX6_put 19 = .ok (.iconst 1, 1) := by decide +kernel
theorem dX6_put_20 : decode cX6_put 20 = .ok (.invokevirtual 72, 3) := by decide +kernel
theorem dX6_put_23 : decode cX6_put 23 = .ok (.ireturn, 1) := by decide +kernel
theorem dX6_put_24 : decode cX6_put 24 = .ok (.iload_n 2, 1) := by decide +kernel
theorem dX6_put_25 : decode cX6_put 25 = .ok (.iconst 0, 1) := by decide +kernel
theorem dX6_put_26 : decode cX6_put 26 = .ok (.aload_n 0, 1) := by decide +kernel
theorem dX6_put_27 : decode cX6_put 27 = .ok (.getfield 23, 3) := by decide +kernel
theorem dX6_put_30 : decode cX6_put 30 = .ok (.iload_n 1, 1) := by decide +kernel
theorem dX6_put_31 : decode cX6_put 31 = .ok (.iaload, 1) := by decide +kernel
theorem dX6_put_32 : decode cX6_put 32 = .ok (.iconst 1, 1) := by decide +kernel
theorem dX6_put_33 : decode cX6_put 33 = .ok (.isub, 1) := by decide +kernel
theorem dX6_put_34 : decode cX6_put 34 = .ok (.invokestatic 64, 3) := by decide +kernel
theorem dX6_put_37 : decode cX6_put 37 = .ok (.ifCond .ne 9, 3) := by decide +kernel
theorem dX6_put_40 : decode cX6_put 40 = .ok (.aload_n 0, 1) := by decide +kernel
theorem dX6_put_41 : decode cX6_put 41 = .ok (.iconst 2, 1) := by decide +kernel
theorem dX6_put_42 : decode cX6_put 42 = .ok (.invokevirtual 72, 3) := by decide +kernel
theorem dX6_put_45 : decode cX6_put 45 = .ok (.ireturn, 1) := by decide +kernel
theorem dX6_put_46 : decode cX6_put 46 = .ok (.aload_n 0, 1) := by decide +kernel
theorem dX6_put_47 : decode cX6_put 47 = .ok (.getfield 26, 3) := by decide +kernel
theorem dX6_put_50 : decode cX6_put 50 = .ok (.bipush 60, 2) := by decide +kernel
theorem dX6_put_52 : decode cX6_put 52 = .ok (.iload_n 1, 1) := by decide +kernel
theorem dX6_put_53 : decode cX6_put 53 = .ok (.imul, 1) := by decide +kernel
theorem dX6_put_54 : decode cX6_put 54 = .ok (.iload_n 2, 1) := by decide +kernel
theorem dX6_put_55 : decode cX6_put 55 = .ok (.iadd, 1) := by decide +kernel
theorem dX6_put_56 : decode cX6_put 56 = .ok (.baload, 1) := by decide +kernel
theorem dX6_put_57 : decode cX6_put 57 = .ok (.istore 4, 2) := by decide +kernel
theorem dX6_put_59 : decode cX6_put 59 = .ok (.aload_n 0, 1) := by decide +kernel
theorem dX6_put_60 : decode cX6_put 60 = .ok (.getfield 26, 3) := by decide +kernel
theorem dX6_put_63 : decode cX6_put 63 = .ok (.bipush 60, 2) := by decide +kernel
theorem dX6_put_65 : decode cX6_put 65 = .ok (.iload_n 1, 1) := by decide +kernel
theorem dX6_put_66 : decode cX6_put 66 = .ok (.imul, 1) := by decide +kernel
theorem dX6_put_67 : decode cX6_put 67 = .ok (.iload_n 2, 1) := by decide +kernel
theorem dX6_put_68 : decode cX6_put 68 = .ok (.iadd, 1) := by decide +kernel
theorem dX6_put_69 : decode cX6_put 69 = .ok (.iload_n 3, 1) := by decide +kernel
theorem dX6_put_70 : decode cX6_put 70 = .ok (.i2b, 1) := by decide +kernel
theorem dX6_put_71 : decode cX6_put 71 = .ok (.bastore, 1) := by decide +kernel
theorem dX6_put_72 : decode cX6_put 72 = .ok (.iload 4, 2) := by decide +kernel
theorem dX6_put_74 : decode cX6_put 74 = .ok (.sipush 1000, 3) := by decide +kernel
theorem dX6_put_77 : decode cX6_put 77 = .ok (.iadd, 1) := by decide +kernel
theorem dX6_put_78 : decode cX6_put 78 = .ok (.ireturn, 1) := by decide +kernel
theorem dX6_kindOf_0 : decode cX6_kindOf 0 = .ok (.iload_n 0, 1) := by decide +kernel
theorem dX6_kindOf_1 : decode cX6_kindOf 1 = .ok (.bipush 108, 2) := by decide +kernel
theorem dX6_kindOf_3 : decode cX6_kindOf 3 = .ok (.if_icmp .ne 7, 3) := by decide +kernel
theorem dX6_kindOf_6 : decode cX6_kindOf 6 = .ok (.iconst 0, 1) := by decide +kernel
theorem dX6_kindOf_7 : decode cX6_kindOf 7 = .ok (.goto 55, 3) := by decide +kernel
theorem dX6_kindOf_10 : decode cX6_kindOf 10 = .ok (.iload_n 0, 1) := by decide +kernel
theorem dX6_kindOf_11 : decode cX6_kindOf 11 = .ok (.bipush 116, 2) := by decide +kernel
theorem dX6_kindOf_13 : decode cX6_kindOf 13 = .ok (.if_icmp .ne 7, 3) := by decide +kernel
theorem dX6_kindOf_16 : decode cX6_kindOf 16 = .ok (.iconst 1, 1) := by decide +kernel
theorem dX6_kindOf_17 : decode cX6_kindOf 17 = .ok (.goto 45, 3) := by decide +kernel
theorem dX6_kindOf_20 : decode cX6_kindOf 20 = .ok (.iload_n 0, 1) := by decide +kernel
theorem dX6_kindOf_21 : decode cX6_kindOf 21 = .ok (.bipush 107, 2) := by decide +kernel
theorem dX6_kindOf_23 : decode cX6_kindOf 23 = .ok (.if_icmp .ne 7, 3) := by decide +kernel
theorem dX6_kindOf_26 : decode cX6_kindOf 26 = .ok (.iconst 2, 1) := by decide +kernel
theorem dX6_kindOf_27 : decode cX6_kindOf 27 = .ok (.goto 35, 3) := by decide +kernel
theorem dX6_kindOf_30 : decode cX6_kindOf 30 = .ok (.iload_n 0, 1) := by decide +kernel
theorem dX6_kindOf_31 : decode cX6_kindOf 31 = .ok (.bipush 104, 2) := by decide +kernel
theorem dX6_kindOf_33 : decode cX6_kindOf 33 = .ok (.if_icmp .ne 7, 3) := by decide +kernel
theorem dX6_kindOf_36 : decode cX6_kindOf 36 = .ok (.iconst 3, 1) := by decide +kernel
theorem dX6_kindOf_37 : decode cX6_kindOf 37 = .ok (.goto 25, 3) := by decide +kernel
theorem dX6_kindOf_40 : decode cX6_kindOf 40 = .ok (.iload_n 0, 1) := by decide +kernel
theorem dX6_kindOf_41 : decode cX6_kindOf 41 = .ok (.bipush 119, 2) := by decide +kernel
theorem dX6_kindOf_43 : decode cX6_kindOf 43 = .ok (.if_icmp .ne 7, 3) := by decide +kernel
theorem dX6_kindOf_46 : decode cX6_kindOf 46 = .ok (.iconst 4, 1) := by decide +kernel
theorem dX6_kindOf_47 : decode cX6_kindOf 47 = .ok (.goto 15, 3) := by decide +kernel
theorem dX6_kindOf_50 : decode cX6_kindOf 50 = .ok (.iload_n 0, 1) := by decide +kernel
theorem dX6_kindOf_51 : decode cX6_kindOf 51 = .ok (.bipush 102, 2) := by decide +kernel
theorem dX6_kindOf_53 : decode cX6_kindOf 53 = .ok (.if_icmp .ne 7, 3) := by decide +kernel
theorem dX6_kindOf_56 : decode cX6_kindOf 56 = .ok (.iconst 5, 1) := by decide +kernel
theorem dX6_kindOf_57 : decode cX6_kindOf 57 = .ok (.goto 5, 3) := by decide +kernel
theorem dX6_kindOf_60 : decode cX6_kindOf 60 = .ok (.bipush (-9), 2) := by decide +kernel
theorem dX6_kindOf_62 : decode cX6_kindOf 62 = .ok (.ireturn, 1) := by decide +kernel
theorem dX6_isThree_0 : decode cX6_isThree 0 = .ok (.iload_n 0, 1) := by decide +kernel
theorem dX6_isThree_1 : decode cX6_isThree 1 = .ok (.iconst 1, 1) := by decide +kernel
theorem dX6_isThree_2 : decode cX6_isThree 2 = .ok (.if_icmp .eq 8, 3) := by decide +kernel
theorem dX6_isThree_5 : decode cX6_isThree 5 = .ok (.iload_n 0, 1) := by decide +kernel
theorem dX6_isThree_6 : decode cX6_isThree 6 = .ok (.iconst 4, 1) := by decide +kernel
theorem dX6_isThree_7 : decode cX6_isThree 7 = .ok (.if_icmp .ne 7, 3) := by decide +kernel
theorem dX6_isThree_10 : decode cX6_isThree 10 = .ok (.iconst 1, 1) := by decide +kernel
theorem dX6_isThree_11 : decode cX6_isThree 11 = .ok (.goto 4, 3) := by decide +kernel
theorem dX6_isThree_14 : decode cX6_isThree 14 = .ok (.iconst 0, 1) := by decide +kernel
theorem dX6_isThree_15 : decode cX6_isThree 15 = .ok (.ireturn, 1) := by decide +kernel
theorem dX6_stepsOf_0 : decode cX6_stepsOf 0 = .ok (.iload_n 0, 1) := by decide +kernel
theorem dX6_stepsOf_1 : decode cX6_stepsOf 1 = .ok (.invokestatic 82, 3) := by decide +kernel
theorem dX6_stepsOf_4 : decode cX6_stepsOf 4 = .ok (.ifCond .eq 7, 3) := by decide +kernel
theorem dX6_stepsOf_7 : decode cX6_stepsOf 7 = .ok (.iconst 3, 1) := by decide +kernel
theorem dX6_stepsOf_8 : decode cX6_stepsOf 8 = .ok (.goto 4, 3) := by decide +kernel
theorem dX6_stepsOf_11 : decode cX6_stepsOf 11 = .ok (.iconst 2, 1) := by decide +kernel
theorem dX6_stepsOf_12 : decode cX6_stepsOf 12 = .ok (.ireturn, 1) := by decide +kernel
theorem dX6_read_0 : decode cX6_read 0 = .ok (.iconst 0, 1) := by decide +kernel
theorem dX6_read_1 : decode cX6_read 1 = .ok (.istore_n 2, 1) := by decide +kernel
theorem dX6_read_2 : decode cX6_read 2 = .ok (.iconst 0, 1) := by decide +kernel
theorem dX6_read_3 : decode cX6_read 3 = .ok (.istore_n 3, 1) := by decide +kernel
theorem dX6_read_4 : decode cX6_read 4 = .ok (.iload_n 3, 1) := by decide +kernel
theorem dX6_read_5 : decode cX6_read 5 = .ok (.aload_n 0, 1) := by decide +kernel
theorem dX6_read_6 : decode cX6_read 6 = .ok (.getfield 23, 3) := by decide +kernel
theorem dX6_read_9 : decode cX6_read 9 = .ok (.iload_n 1, 1) := by decide +kernel
theorem dX6_read_10 : decode cX6_read 10 = .ok (.iaload, 1) := by decide +kernel
theorem dX6_read_11 : decode cX6_read 11 = .ok (.if_icmp .ge 25, 3) := by decide +kernel
theorem dX6_read_14 : decode cX6_read 14 = .ok (.aload_n 0, 1) := by decide +kernel
theorem dX6_read_15 : decode cX6_read 15 = .ok (.getfield 26, 3) := by decide +kernel
theorem dX6_read_18 : decode cX6_read 18 = .ok (.bipush 60, 2) := by decide +kernel
theorem dX6_read_20 : decode cX6_read 20 = .ok (.iload_n 1, 1) := by decide +kernel
theorem dX6_read_21 : decode cX6_read 21 = .ok (.imul, 1) := by decide +kernel
theorem dX6_read_22 : decode cX6_read 22 = .ok (.iload_n 3, 1) := by decide +kernel
theorem dX6_read_23 : decode cX6_read 23 = .ok (.iadd, 1) := by decide +kernel
theorem dX6_read_24 : decode cX6_read 24 = .ok (.baload, 1) := by decide +kernel
theorem dX6_read_25 : decode cX6_read 25 = .ok (.bipush 32, 2) := by decide +kernel
theorem dX6_read_27 : decode cX6_read 27 = .ok (.if_icmp .ne 9, 3) := by decide +kernel
theorem dX6_read_30 : decode cX6_read 30 = .ok (.iinc 3 1, 3) := by decide +kernel
theorem dX6_read_33 : decode cX6_read 33 = .ok (.goto (-29), 3) := by decide +kernel
theorem dX6_read_36 : decode cX6_read 36 = .ok (.iload_n 3, 1) := by decide +kernel
theorem dX6_read_37 : decode cX6_read 37 = .ok (.aload_n 0, 1) := by decide +kernel
theorem dX6_read_38 : decode cX6_read 38 = .ok (.getfield 23, 3) := by decide +kernel
theorem dX6_read_41 : decode cX6_read 41 = .ok (.iload_n 1, 1) := by decide +kernel
theorem dX6_read_42 : decode cX6_read 42 = .ok (.iaload, 1) := by decide +kernel
theorem dX6_read_43 : decode cX6_read 43 = .ok (.if_icmp .ne 16, 3) := by decide +kernel
theorem dX6_read_46 : decode cX6_read 46 = .ok (.iload_n 2, 1) := by decide +kernel
theorem dX6_read_47 : decode cX6_read 47 = .ok (.bipush 9, 2) := by decide +kernel
theorem dX6_read_49 : decode cX6_read 49 = .ok (.if_icmp .ge 7, 3) := by decide +kernel
theorem dX6_read_52 : decode cX6_read 52 = .ok (.iload_n 3, 1) := by decide +kernel
theorem dX6_read_53 : decode cX6_read 53 = .ok (.goto 5, 3) := by decide +kernel
theorem dX6_read_56 : decode cX6_read 56 = .ok (.bipush (-9), 2) := by decide +kernel
theorem dX6_read_58 : decode cX6_read 58 = .ok (.ireturn, 1) := by decide +kernel
theorem dX6_read_59 : decode cX6_read 59 = .ok (.aload_n 0, 1) := by decide +kernel
theorem dX6_read_60 : decode cX6_read 60 = .ok (.getfield 26, 3) := by decide +kernel
theorem dX6_read_63 : decode cX6_read 63 = .ok (.bipush 60, 2) := by decide +kernel
theorem dX6_read_65 : decode cX6_read 65 = .ok (.iload_n 1, 1) := by decide +kernel
theorem dX6_read_66 : decode cX6_read 66 = .ok (.imul, 1) := by decide +kernel
theorem dX6_read_67 : decode cX6_read 67 = .ok (.iload_n 3, 1) := by decide +kernel
theorem dX6_read_68 : decode cX6_read 68 = .ok (.iadd, 1) := by decide +kernel
theorem dX6_read_69 : decode cX6_read 69 = .ok (.baload, 1) := by decide +kernel
theorem dX6_read_70 : decode cX6_read 70 = .ok (.invokestatic 85, 3) := by decide +kernel
theorem dX6_read_73 : decode cX6_read 73 = .ok (.istore 4, 2) := by decide +kernel
theorem dX6_read_75 : decode cX6_read 75 = .ok (.iload 4, 2) := by decide +kernel
theorem dX6_read_77 : decode cX6_read 77 = .ok (.bipush (-9), 2) := by decide +kernel
theorem dX6_read_79 : decode cX6_read 79 = .ok (.if_icmp .eq 9, 3) := by decide +kernel
theorem dX6_read_82 : decode cX6_read 82 = .ok (.iload_n 2, 1) := by decide +kernel
theorem dX6_read_83 : decode cX6_read 83 = .ok (.bipush 9, 2) := by decide +kernel
theorem dX6_read_85 : decode cX6_read 85 = .ok (.if_icmp .ne 5, 3) := by decide +kernel
theorem dX6_read_88 : decode cX6_read 88 = .ok (.iload_n 3, 1) := by decide +kernel
theorem dX6_read_89 : decode cX6_read 89 = .ok (.ireturn, 1) := by decide +kernel
theorem dX6_read_90 : decode cX6_read 90 = .ok (.iload_n 3, 1) := by decide +kernel
theorem dX6_read_91 : decode cX6_read 91 = .ok (.iconst 1, 1) := by decide +kernel
theorem dX6_read_92 : decode cX6_read 92 = .ok (.iadd, 1) := by decide +kernel
theorem dX6_read_93 : decode cX6_read 93 = .ok (.aload_n 0, 1) := by decide +kernel
theorem dX6_read_94 : decode cX6_read 94 = .ok (.getfield 23, 3) := by decide +kernel
theorem dX6_read_97 : decode cX6_read 97 = .ok (.iload_n 1, 1) := by decide +kernel
theorem dX6_read_98 : decode cX6_read 98 = .ok (.iaload, 1) := by decide +kernel
theorem dX6_read_99 : decode cX6_read 99 = .ok (.if_icmp .eq 33, 3) := by decide +kernel
theorem dX6_read_102 : decode cX6_read 102 = .ok (.aload_n 0, 1) := by decide +kernel
theorem dX6_read_103 : decode cX6_read 103 = .ok (.getfield 26, 3) := by decide +kernel
theorem dX6_read_106 : decode cX6_read 106 = .ok (.bipush 60, 2) := by decide +kernel
theorem dX6_read_108 : decode cX6_read 108 = .ok (.iload_n 1, 1) := by decide +kernel
theorem dX6_read_109 : decode cX6_read 109 = .ok (.imul, 1) := by decide +kernel
theorem dX6_read_110 : decode cX6_read 110 = .ok (.iload_n 3, 1) := by decide +kernel
theorem dX6_read_111 : decode cX6_read 111 = .ok (.iadd, 1) := by decide +kernel
theorem dX6_read_112 : decode cX6_read 112 = .ok (.iconst 1, 1) := by decide +kernel
theorem dX6_read_113 : decode cX6_read 113 = .ok (.iadd, 1) := by decide +kernel
theorem dX6_read_114 : decode cX6_read 114 = .ok (.baload, 1) := by decide +kernel
theorem dX6_read_115 : decode cX6_read 115 = .ok (.bipush 48, 2) := by decide +kernel
theorem dX6_read_117 : decode cX6_read 117 = .ok (.isub, 1) := by decide +kernel
theorem dX6_read_118 : decode cX6_read 118 = .ok (.iconst 0, 1) := by decide +kernel
theorem dX6_read_119 : decode cX6_read 119 = .ok (.iload 4, 2) := by decide +kernel
theorem dX6_read_121 : decode cX6_read 121 = .ok (.invokestatic 88, 3) := by decide +kernel
theorem dX6_read_124 : decode cX6_read 124 = .ok (.iconst 1, 1) := by decide +kernel
theorem dX6_read_125 : decode cX6_read 125 = .ok (.isub, 1) := by decide +kernel
theorem dX6_read_126 : decode cX6_read 126 = .ok (.invokestatic 64, 3) := by decide +kernel
theorem dX6_read_129 : decode cX6_read 129 = .ok (.ifCond .ne 7, 3) := by decide +kernel
theorem dX6_read_132 : decode cX6_read 132 = .ok (.iload_n 3, 1) := by decide +kernel
theorem dX6_read_133 : decode cX6_read 133 = .ok (.iconst 1, 1) := by decide +kernel
theorem dX6_read_134 : decode cX6_read 134 = .ok (.iadd, 1) := by decide +kernel
theorem dX6_read_135 : decode cX6_read 135 = .ok (.ireturn, 1) := by decide +kernel
theorem dX6_read_136 : decode cX6_read 136 = .ok (.aload_n 0, 1) := by decide +kernel
theorem dX6_read_137 : decode cX6_read 137 = .ok (.getfield 33, 3) := by decide +kernel
theorem dX6_read_140 : decode cX6_read 140 = .ok (.bipush 9, 2) := by decide +kernel
theorem dX6_read_142 : decode cX6_read 142 = .ok (.iload_n 2, 1) := by decide +kernel
theorem dX6_read_143 : decode cX6_read 143 = .ok (.iadd, 1) := by decide +kernel
theorem dX6_read_144 : decode cX6_read 144 = .ok (.iload 4, 2) := by decide +kernel
theorem dX6_read_146 : decode cX6_read 146 = .ok (.iastore, 1) := by decide +kernel
theorem dX6_read_147 : decode cX6_read 147 = .ok (.aload_n 0, 1) := by decide +kernel
theorem dX6_read_148 : decode cX6_read 148 = .ok (.getfield 36, 3) := by decide +kernel
theorem dX6_read_151 : decode cX6_read 151 = .ok (.bipush 9, 2) := by decide +kernel
theorem dX6_read_153 : decode cX6_read 153 = .ok (.iload_n 2, 1) := by decide +kernel
theorem dX6_read_154 : decode cX6_read 154 = .ok (.iadd, 1) := by decide +kernel
theorem dX6_read_155 : decode cX6_read 155 = .ok (.aload_n 0, 1) := by decide +kernel
theorem dX6_read_156 : decode cX6_read 156 = .ok (.getfield 26, 3) := by decide +kernel
theorem dX6_read_159 : decode cX6_read 159 = .ok (.bipush 60, 2) := by decide +kernel
theorem dX6_read_161 : decode cX6_read 161 = .ok (.iload_n 1, 1) := by decide +kernel
theorem dX6_read_162 : decode cX6_read 162 = .ok (.imul, 1) := by decide +kernel
theorem dX6_read_163 : decode cX6_read 163 = .ok (.iload_n 3, 1) := by decide +kernel
theorem dX6_read_164 : decode cX6_read 164 = .ok (.iadd, 1) := by decide +kernel
theorem dX6_read_165 : decode cX6_read 165 = .ok (.iconst 1, 1) := by decide +kernel
theorem dX6_read_166 : decode cX6_read 166 = .ok (.iadd, 1) := by decide +kernel
theorem dX6_read_167 : decode cX6_read 167 = .ok (.baload, 1) := by decide +kernel
theorem dX6_read_168 : decode cX6_read 168 = .ok (.bipush 48, 2) := by decide +kernel
theorem dX6_read_170 : decode cX6_read 170 = .ok (.isub, 1) := by decide +kernel
theorem dX6_read_171 : decode cX6_read 171 = .ok (.iastore, 1) := by decide +kernel
theorem dX6_read_172 : decode cX6_read 172 = .ok (.iinc 2 1, 3) := by decide +kernel
theorem dX6_read_175 : decode cX6_read 175 = .ok (.iinc 3 2, 3) := by decide +kernel
theorem dX6_read_178 : decode cX6_read 178 = .ok (.goto (-174), 3) := by decide +kernel
theorem dX6_fault_0 : decode cX6_fault 0 = .ok (.iload_n 1, 1) := by decide +kernel
theorem dX6_fault_1 : decode cX6_fault 1 = .ok (.invokestatic 79, 3) := by decide +kernel
theorem dX6_fault_4 : decode cX6_fault 4 = .ok (.ifCond .ne 5, 3) := by decide +kernel
theorem dX6_fault_7 : decode cX6_fault 7 = .ok (.iconst (-1), 1) := by decide +kernel
theorem dX6_fault_8 : decode cX6_fault 8 = .ok (.ireturn, 1) := by decide +kernel
theorem dX6_fault_9 : decode cX6_fault 9 = .ok (.aload_n 0, 1) := by decide +kernel
theorem dX6_fault_10 : decode cX6_fault 10 = .ok (.getfield 23, 3) := by decide +kernel
theorem dX6_fault_13 : decode cX6_fault 13 = .ok (.iload_n 1, 1) := by decide +kernel
theorem dX6_fault_14 : decode cX6_fault 14 = .ok (.iaload, 1) := by decide +kernel
theorem dX6_fault_15 : decode cX6_fault 15 = .ok (.ifCond .ge 11, 3) := by decide +kernel
theorem dX6_fault_18 : decode cX6_fault 18 = .ok (.aload_n 0, 1) := by decide +kernel
theorem dX6_fault_19 : decode cX6_fault 19 = .ok (.iconst 1, 1) := by decide +kernel
theorem dX6_fault_20 : decode cX6_fault 20 = .ok (.invokevirtual 72, 3) := by decide +kernel
theorem dX6_fault_23 : decode cX6_fault 23 = .ok (.goto 8, 3) := by decide +kernel
theorem dX6_fault_26 : decode cX6_fault 26 = .ok (.aload_n 0, 1) := by decide +kernel
theorem dX6_fault_27 : decode cX6_fault 27 = .ok (.iload_n 1, 1) := by decide +kernel
theorem dX6_fault_28 : decode cX6_fault 28 = .ok (.invokevirtual 91, 3) := by decide +kernel
theorem dX6_fault_31 : decode cX6_fault 31 = .ok (.ireturn, 1) := by decide +kernel
theorem dX6_wall_0 : decode cX6_wall 0 = .ok (.iload_n 1, 1) := by decide +kernel
theorem dX6_wall_1 : decode cX6_wall 1 = .ok (.invokestatic 79, 3) := by decide +kernel
theorem dX6_wall_4 : decode cX6_wall 4 = .ok (.ifCond .ne 5, 3) := by decide +kernel
theorem dX6_wall_7 : decode cX6_wall 7 = .ok (.iconst (-1), 1) := by decide +kernel
theorem dX6_wall_8 : decode cX6_wall 8 = .ok (.ireturn, 1) := by decide +kernel
theorem dX6_wall_9 : decode cX6_wall 9 = .ok (.aload_n 0, 1) := by decide +kernel
theorem dX6_wall_10 : decode cX6_wall 10 = .ok (.getfield 23, 3) := by decide +kernel
theorem dX6_wall_13 : decode cX6_wall 13 = .ok (.iload_n 1, 1) := by decide +kernel
theorem dX6_wall_14 : decode cX6_wall 14 = .ok (.iaload, 1) := by decide +kernel
theorem dX6_wall_15 : decode cX6_wall 15 = .ok (.ifCond .ge 9, 3) := by decide +kernel
theorem dX6_wall_18 : decode cX6_wall 18 = .ok (.aload_n 0, 1) := by decide +kernel
theorem dX6_wall_19 : decode cX6_wall 19 = .ok (.iconst 1, 1) := by decide +kernel
theorem dX6_wall_20 : decode cX6_wall 20 = .ok (.invokevirtual 72, 3) := by decide +kernel
theorem dX6_wall_23 : decode cX6_wall 23 = .ok (.ireturn, 1) := by decide +kernel
theorem dX6_wall_24 : decode cX6_wall 24 = .ok (.aload_n 0, 1) := by decide +kernel
theorem dX6_wall_25 : decode cX6_wall 25 = .ok (.iload_n 1, 1) := by decide +kernel
theorem dX6_wall_26 : decode cX6_wall 26 = .ok (.invokevirtual 91, 3) := by decide +kernel
theorem dX6_wall_29 : decode cX6_wall 29 = .ok (.bipush (-9), 2) := by decide +kernel
theorem dX6_wall_31 : decode cX6_wall 31 = .ok (.if_icmp .eq 6, 3) := by decide +kernel
theorem dX6_wall_34 : decode cX6_wall 34 = .ok (.bipush (-4), 2) := by decide +kernel
theorem dX6_wall_36 : decode cX6_wall 36 = .ok (.ireturn, 1) := by decide +kernel
theorem dX6_wall_37 : decode cX6_wall 37 = .ok (.aload_n 0, 1) := by decide +kernel
theorem dX6_wall_38 : decode cX6_wall 38 = .ok (.bipush 9, 2) := by decide +kernel
theorem dX6_wall_40 : decode cX6_wall 40 = .ok (.putfield 94, 3) := by decide +kernel
theorem dX6_wall_43 : decode cX6_wall 43 = .ok (.aload_n 0, 1) := by decide +kernel
theorem dX6_wall_44 : decode cX6_wall 44 = .ok (.iconst 0, 1) := by decide +kernel
theorem dX6_wall_45 : decode cX6_wall 45 = .ok (.putfield 97, 3) := by decide +kernel
theorem dX6_wall_48 : decode cX6_wall 48 = .ok (.iconst 0, 1) := by decide +kernel
theorem dX6_wall_49 : decode cX6_wall 49 = .ok (.istore_n 2, 1) := by decide +kernel
theorem dX6_wall_50 : decode cX6_wall 50 = .ok (.iload_n 2, 1) := by decide +kernel
theorem dX6_wall_51 : decode cX6_wall 51 = .ok (.bipush 9, 2) := by decide +kernel
theorem dX6_wall_53 : decode cX6_wall 53 = .ok (.if_icmp .ge 39, 3) := by decide +kernel
theorem dX6_wall_56 : decode cX6_wall 56 = .ok (.aload_n 0, 1) := by decide +kernel
theorem dX6_wall_57 : decode cX6_wall 57 = .ok (.getfield 33, 3) := by decide +kernel
theorem dX6_wall_60 : decode cX6_wall 60 = .ok (.iload_n 2, 1) := by decide +kernel
theorem dX6_wall_61 : decode cX6_wall 61 = .ok (.aload_n 0, 1) := by decide +kernel
theorem dX6_wall_62 : decode cX6_wall 62 = .ok (.getfield 33, 3) := by decide +kernel
theorem dX6_wall_65 : decode cX6_wall 65 = .ok (.bipush 9, 2) := by decide +kernel
theorem dX6_wall_67 : decode cX6_wall 67 = .ok (.iload_n 2, 1) := by decide +kernel
theorem dX6_wall_68 : decode cX6_wall 68 = .ok (.iadd, 1) := by decide +kernel
theorem dX6_wall_69 : decode cX6_wall 69 = .ok (.iaload, 1) := by decide +kernel
theorem dX6_wall_70 : decode cX6_wall 70 = .ok (.iastore, 1) := by decide +kernel
theorem dX6_wall_71 : decode cX6_wall 71 = .ok (.aload_n 0, 1) := by decide +kernel
theorem dX6_wall_72 : decode cX6_wall 72 = .ok (.getfield 39, 3) := by decide +kernel
theorem dX6_wall_75 : decode cX6_wall 75 = .ok (.iload_n 2, 1) := by decide +kernel
theorem dX6_wall_76 : decode cX6_wall 76 = .ok (.aload_n 0, 1) := by decide +kernel
theorem dX6_wall_77 : decode cX6_wall 77 = .ok (.getfield 36, 3) := by decide +kernel
theorem dX6_wall_80 : decode cX6_wall 80 = .ok (.bipush 9, 2) := by decide +kernel
theorem dX6_wall_82 : decode cX6_wall 82 = .ok (.iload_n 2, 1) := by decide +kernel
theorem dX6_wall_83 : decode cX6_wall 83 = .ok (.iadd, 1) := by decide +kernel
theorem dX6_wall_84 : decode cX6_wall 84 = .ok (.iaload, 1) := by decide +kernel
theorem dX6_wall_85 : decode cX6_wall 85 = .ok (.iastore, 1) := by decide +kernel
theorem dX6_wall_86 : decode cX6_wall 86 = .ok (.iinc 2 1, 3) := by decide +kernel
theorem dX6_wall_89 : decode cX6_wall 89 = .ok (.goto (-39), 3) := by decide +kernel
theorem dX6_wall_92 : decode cX6_wall 92 = .ok (.aload_n 0, 1) := by decide +kernel
theorem dX6_wall_93 : decode cX6_wall 93 = .ok (.getfield 39, 3) := by decide +kernel
theorem dX6_wall_96 : decode cX6_wall 96 = .ok (.bipush 9, 2) := by decide +kernel
theorem dX6_wall_98 : decode cX6_wall 98 = .ok (.iconst 0, 1) := by decide +kernel
theorem dX6_wall_99 : decode cX6_wall 99 = .ok (.iastore, 1) := by decide +kernel
theorem dX6_wall_100 : decode cX6_wall 100 = .ok (.aload_n 0, 1) := by decide +kernel
theorem dX6_wall_101 : decode cX6_wall 101 = .ok (.getfield 39, 3) := by decide +kernel
theorem dX6_wall_104 : decode cX6_wall 104 = .ok (.bipush 10, 2) := by decide +kernel
theorem dX6_wall_106 : decode cX6_wall 106 = .ok (.iconst 0, 1) := by decide +kernel
theorem dX6_wall_107 : decode cX6_wall 107 = .ok (.iastore, 1) := by decide +kernel
theorem dX6_wall_108 : decode cX6_wall 108 = .ok (.iconst 0, 1) := by decide +kernel
theorem dX6_wall_109 : decode cX6_wall 109 = .ok (.istore_n 2, 1) := by decide +kernel
theorem dX6_wall_110 : decode cX6_wall 110 = .ok (.iload_n 2, 1) := by decide +kernel
theorem dX6_wall_111 : decode cX6_wall 111 = .ok (.iconst 3, 1) := by decide +kernel
theorem dX6_wall_112 : decode cX6_wall 112 = .ok (.if_icmp .ge 16, 3) := by decide +kernel
theorem dX6_wall_115 : decode cX6_wall 115 = .ok (.aload_n 0, 1) := by decide +kernel
theorem dX6_wall_116 : decode cX6_wall 116 = .ok (.getfield 45, 3) := by decide +kernel
theorem dX6_wall_119 : decode cX6_wall 119 = .ok (.iload_n 2, 1) := by decide +kernel
theorem dX6_wall_120 : decode cX6_wall 120 = .ok (.iconst (-1), 1) := by decide +kernel
theorem dX6_wall_121 : decode cX6_wall 121 = .ok (.iastore, 1) := by decide +kernel
theorem dX6_wall_122 : decode cX6_wall 122 = .ok (.iinc 2 1, 3) := by decide +kernel
theorem dX6_wall_125 : decode cX6_wall 125 = .ok (.goto (-15), 3) := by decide +kernel
theorem dX6_wall_128 : decode cX6_wall 128 = .ok (.bipush 9, 2) := by decide +kernel
theorem dX6_wall_130 : decode cX6_wall 130 = .ok (.ireturn, 1) := by decide +kernel
theorem dX6_now_0 : decode cX6_now 0 = .ok (.aload_n 0, 1) := by decide +kernel
theorem dX6_now_1 : decode cX6_now 1 = .ok (.getfield 39, 3) := by decide +kernel
theorem dX6_now_4 : decode cX6_now 4 = .ok (.bipush 11, 2) := by decide +kernel
theorem dX6_now_6 : decode cX6_now 6 = .ok (.aload_n 0, 1) := by decide +kernel
theorem dX6_now_7 : decode cX6_now 7 = .ok (.getfield 97, 3) := by decide +kernel
theorem dX6_now_10 : decode cX6_now 10 = .ok (.imul, 1) := by decide +kernel
theorem dX6_now_11 : decode cX6_now 11 = .ok (.iload_n 1, 1) := by decide +kernel
theorem dX6_now_12 : decode cX6_now 12 = .ok (.iadd, 1) := by decide +kernel
theorem dX6_now_13 : decode cX6_now 13 = .ok (.iaload, 1) := by decide +kernel
theorem dX6_now_14 : decode cX6_now 14 = .ok (.ireturn, 1) := by decide +kernel
theorem dX6_take_0 : decode cX6_take 0 = .ok (.iconst 0, 1) := by decide +kernel
theorem dX6_take_1 : decode cX6_take 1 = .ok (.istore_n 1, 1) := by decide +kernel
theorem dX6_take_2 : decode cX6_take 2 = .ok (.iload_n 1, 1) := by decide +kernel
theorem dX6_take_3 : decode cX6_take 3 = .ok (.bipush 11, 2) := by decide +kernel
theorem dX6_take_5 : decode cX6_take 5 = .ok (.if_icmp .ge 29, 3) := by decide +kernel
theorem dX6_take_8 : decode cX6_take 8 = .ok (.aload_n 0, 1) := by decide +kernel
theorem dX6_take_9 : decode cX6_take 9 = .ok (.getfield 48, 3) := by decide +kernel
theorem dX6_take_12 : decode cX6_take 12 = .ok (.iload_n 1, 1) := by decide +kernel
theorem dX6_take_13 : decode cX6_take 13 = .ok (.aload_n 0, 1) := by decide +kernel
theorem dX6_take_14 : decode cX6_take 14 = .ok (.getfield 39, 3) := by decide +kernel
theorem dX6_take_17 : decode cX6_take 17 = .ok (.bipush 11, 2) := by decide +kernel
theorem dX6_take_19 : decode cX6_take 19 = .ok (.aload_n 0, 1) := by decide +kernel
theorem dX6_take_20 : decode cX6_take 20 = .ok (.getfield 97, 3) := by decide +kernel
theorem dX6_take_23 : decode cX6_take 23 = .ok (.imul, 1) := by decide +kernel
theorem dX6_take_24 : decode cX6_take 24 = .ok (.iload_n 1, 1) := by decide +kernel
theorem dX6_take_25 : decode cX6_take 25 = .ok (.iadd, 1) := by decide +kernel
theorem dX6_take_26 : decode cX6_take 26 = .ok (.iaload, 1) := by decide +kernel
theorem dX6_take_27 : decode cX6_take 27 = .ok (.iastore, 1) := by decide +kernel
theorem dX6_take_28 : decode cX6_take 28 = .ok (.iinc 1 1, 3) := by decide +kernel
theorem dX6_take_31 : decode cX6_take 31 = .ok (.goto (-29), 3) := by decide +kernel
theorem dX6_take_34 : decode cX6_take 34 = .ok (.return_, 1) := by decide +kernel
theorem dX6_isLamp_0 : decode cX6_isLamp 0 = .ok (.iload_n 1, 1) := by decide +kernel
theorem dX6_isLamp_1 : decode cX6_isLamp 1 = .ok (.iconst 0, 1) := by decide +kernel
theorem dX6_isLamp_2 : decode cX6_isLamp 2 = .ok (.aload_n 0, 1) := by decide +kernel
theorem dX6_isLamp_3 : decode cX6_isLamp 3 = .ok (.getfield 94, 3) := by decide +kernel
theorem dX6_isLamp_6 : decode cX6_isLamp 6 = .ok (.iconst 1, 1) := by decide +kernel
theorem dX6_isLamp_7 : decode cX6_isLamp 7 = .ok (.isub, 1) := by decide +kernel
theorem dX6_isLamp_8 : decode cX6_isLamp 8 = .ok (.invokestatic 64, 3) := by decide +kernel
theorem dX6_isLamp_11 : decode cX6_isLamp 11 = .ok (.ireturn, 1) := by decide +kernel
theorem dX6_isButton_0 : decode cX6_isButton 0 = .ok (.iload_n 0, 1) := by decide +kernel
theorem dX6_isButton_1 : decode cX6_isButton 1 = .ok (.iconst 0, 1) := by decide +kernel
theorem dX6_isButton_2 : decode cX6_isButton 2 = .ok (.bipush 8, 2) := by decide +kernel
theorem dX6_isButton_4 : decode cX6_isButton 4 = .ok (.invokestatic 64, 3) := by decide +kernel
theorem dX6_isButton_7 : decode cX6_isButton 7 = .ok (.ireturn, 1) := by decide +kernel
theorem dX6_isPicture_0 : decode cX6_isPicture 0 = .ok (.iload_n 0, 1) := by decide +kernel
theorem dX6_isPicture_1 : decode cX6_isPicture 1 = .ok (.iconst 0, 1) := by decide +kernel
theorem dX6_isPicture_2 : decode cX6_isPicture 2 = .ok (.sipush 511, 3) := by decide +kernel
theorem dX6_isPicture_5 : decode cX6_isPicture 5 = .ok (.invokestatic 64, 3) := by decide +kernel
theorem dX6_isPicture_8 : decode cX6_isPicture 8 = .ok (.ireturn, 1) := by decide +kernel
theorem dX6_doesTouch_0 : decode cX6_doesTouch 0 = .ok (.iload_n 0, 1) := by decide +kernel
theorem dX6_doesTouch_1 : decode cX6_doesTouch 1 = .ok (.iconst 3, 1) := by decide +kernel
theorem dX6_doesTouch_2 : decode cX6_doesTouch 2 = .ok (.irem, 1) := by decide +kernel
theorem dX6_doesTouch_3 : decode cX6_doesTouch 3 = .ok (.iload_n 1, 1) := by decide +kernel
theorem dX6_doesTouch_4 : decode cX6_doesTouch 4 = .ok (.iconst 3, 1) := by decide +kernel
theorem dX6_doesTouch_5 : decode cX6_doesTouch 5 = .ok (.irem, 1) := by decide +kernel
theorem dX6_doesTouch_6 : decode cX6_doesTouch 6 = .ok (.isub, 1) := by decide +kernel
theorem dX6_doesTouch_7 : decode cX6_doesTouch 7 = .ok (.istore_n 2, 1) := by decide +kernel
theorem dX6_doesTouch_8 : decode cX6_doesTouch 8 = .ok (.iload_n 0, 1) := by decide +kernel
theorem dX6_doesTouch_9 : decode cX6_doesTouch 9 = .ok (.iconst 3, 1) := by decide +kernel
theorem dX6_doesTouch_10 : decode cX6_doesTouch 10 = .ok (.idiv, 1) := by decide +kernel
theorem dX6_doesTouch_11 : decode cX6_doesTouch 11 = .ok (.iload_n 1, 1) := by decide +kernel
theorem dX6_doesTouch_12 : decode cX6_doesTouch 12 = .ok (.iconst 3, 1) := by decide +kernel
theorem dX6_doesTouch_13 : decode cX6_doesTouch 13 = .ok (.idiv, 1) := by decide +kernel
theorem dX6_doesTouch_14 : decode cX6_doesTouch 14 = .ok (.isub, 1) := by decide +kernel
theorem dX6_doesTouch_15 : decode cX6_doesTouch 15 = .ok (.istore_n 3, 1) := by decide +kernel
theorem dX6_doesTouch_16 : decode cX6_doesTouch 16 = .ok (.iload_n 2, 1) := by decide +kernel
theorem dX6_doesTouch_17 : decode cX6_doesTouch 17 = .ok (.iload_n 2, 1) := by decide +kernel
theorem dX6_doesTouch_18 : decode cX6_doesTouch 18 = .ok (.imul, 1) := by decide +kernel
theorem dX6_doesTouch_19 : decode cX6_doesTouch 19 = .ok (.iload_n 3, 1) := by decide +kernel
theorem dX6_doesTouch_20 : decode cX6_doesTouch 20 = .ok (.iload_n 3, 1) := by decide +kernel
theorem dX6_doesTouch_21 : decode cX6_doesTouch 21 = .ok (.imul, 1) := by decide +kernel
theorem dX6_doesTouch_22 : decode cX6_doesTouch 22 = .ok (.iadd, 1) := by decide +kernel
theorem dX6_doesTouch_23 : decode cX6_doesTouch 23 = .ok (.iconst 1, 1) := by decide +kernel
theorem dX6_doesTouch_24 : decode cX6_doesTouch 24 = .ok (.if_icmp .gt 7, 3) := by decide +kernel
theorem dX6_doesTouch_27 : decode cX6_doesTouch 27 = .ok (.iconst 1, 1) := by decide +kernel
theorem dX6_doesTouch_28 : decode cX6_doesTouch 28 = .ok (.goto 4, 3) := by decide +kernel
theorem dX6_doesTouch_31 : decode cX6_doesTouch 31 = .ok (.iconst 0, 1) := by decide +kernel
theorem dX6_doesTouch_32 : decode cX6_doesTouch 32 = .ok (.ireturn, 1) := by decide +kernel
theorem dX6_touchedBy_0 : decode cX6_touchedBy 0 = .ok (.iconst 0, 1) := by decide +kernel
theorem dX6_touchedBy_1 : decode cX6_touchedBy 1 = .ok (.istore_n 1, 1) := by decide +kernel
theorem dX6_touchedBy_2 : decode cX6_touchedBy 2 = .ok (.iconst 0, 1) := by decide +kernel
theorem dX6_touchedBy_3 : decode cX6_touchedBy 3 = .ok (.istore_n 2, 1) := by decide +kernel
theorem dX6_touchedBy_4 : decode cX6_touchedBy 4 = .ok (.iload_n 2, 1) := by decide +kernel
theorem dX6_touchedBy_5 : decode cX6_touchedBy 5 = .ok (.bipush 9, 2) := by decide +kernel
theorem dX6_touchedBy_7 : decode cX6_touchedBy 7 = .ok (.if_icmp .ge 27, 3) := by decide +kernel
theorem dX6_touchedBy_10 : decode cX6_touchedBy 10 = .ok (.iload_n 1, 1) := by decide +kernel
theorem dX6_touchedBy_11 : decode cX6_touchedBy 11 = .ok (.iload_n 0, 1) := by decide +kernel
theorem dX6_touchedBy_12 : decode cX6_touchedBy 12 = .ok (.iload_n 2, 1) := by decide +kernel
theorem dX6_touchedBy_13 : decode cX6_touchedBy 13 = .ok (.invokestatic 100, 3) := by decide +kernel
theorem dX6_touchedBy_16 : decode cX6_touchedBy 16 = .ok (.ifCond .eq 9, 3) := by decide +kernel
theorem dX6_touchedBy_19 : decode cX6_touchedBy 19 = .ok (.iconst 1, 1) := by decide +kernel
theorem dX6_touchedBy_20 : decode cX6_touchedBy 20 = .ok (.iload_n 2, 1) := by decide +kernel
theorem dX6_touchedBy_21 : decode cX6_touchedBy 21 = .ok (.ishl, 1) := by decide +kernel
theorem dX6_touchedBy_22 : decode cX6_touchedBy 22 = .ok (.goto 4, 3) := by decide +kernel
theorem dX6_touchedBy_25 : decode cX6_touchedBy 25 = .ok (.iconst 0, 1) := by decide +kernel
theorem dX6_touchedBy_26 : decode cX6_touchedBy 26 = .ok (.ior, 1) := by decide +kernel
theorem dX6_touchedBy_27 : decode cX6_touchedBy 27 = .ok (.istore_n 1, 1) := by decide +kernel
theorem dX6_touchedBy_28 : decode cX6_touchedBy 28 = .ok (.iinc 2 1, 3) := by decide +kernel
theorem dX6_touchedBy_31 : decode cX6_touchedBy 31 = .ok (.goto (-27), 3) := by decide +kernel
theorem dX6_touchedBy_34 : decode cX6_touchedBy 34 = .ok (.iload_n 1, 1) := by decide +kernel
theorem dX6_touchedBy_35 : decode cX6_touchedBy 35 = .ok (.ireturn, 1) := by decide +kernel
theorem dX6_after_0 : decode cX6_after 0 = .ok (.iload_n 0, 1) := by decide +kernel
theorem dX6_after_1 : decode cX6_after 1 = .ok (.tableswitch 63 0 4 #[35, 39, 45, 63, 47], 35) := by decide +kernel
theorem dX6_after_36 : decode cX6_after 36 = .ok (.iconst 1, 1) := by decide +kernel
theorem dX6_after_37 : decode cX6_after 37 = .ok (.iload_n 1, 1) := by decide +kernel
theorem dX6_after_38 : decode cX6_after 38 = .ok (.isub, 1) := by decide +kernel
theorem dX6_after_39 : decode cX6_after 39 = .ok (.ireturn, 1) := by decide +kernel
theorem dX6_after_40 : decode cX6_after 40 = .ok (.iload_n 1, 1) := by decide +kernel
theorem dX6_after_41 : decode cX6_after 41 = .ok (.iconst 1, 1) := by decide +kernel
theorem dX6_after_42 : decode cX6_after 42 = .ok (.iadd, 1) := by decide +kernel
theorem dX6_after_43 : decode cX6_after 43 = .ok (.iconst 3, 1) := by decide +kernel
theorem dX6_after_44 : decode cX6_after 44 = .ok (.irem, 1) := by decide +kernel
theorem dX6_after_45 : decode cX6_after 45 = .ok (.ireturn, 1) := by decide +kernel
theorem dX6_after_46 : decode cX6_after 46 = .ok (.iconst 1, 1) := by decide +kernel
theorem dX6_after_47 : decode cX6_after 47 = .ok (.ireturn, 1) := by decide +kernel
theorem dX6_after_48 : decode cX6_after 48 = .ok (.iload_n 3, 1) := by decide +kernel
theorem dX6_after_49 : decode cX6_after 49 = .ok (.iconst 2, 1) := by decide +kernel
theorem dX6_after_50 : decode cX6_after 50 = .ok (.irem, 1) := by decide +kernel
theorem dX6_after_51 : decode cX6_after 51 = .ok (.ifCond .ne 11, 3) := by decide +kernel
theorem dX6_after_54 : decode cX6_after 54 = .ok (.iload_n 1, 1) := by decide +kernel
theorem dX6_after_55 : decode cX6_after 55 = .ok (.iconst 1, 1) := by decide +kernel
theorem dX6_after_56 : decode cX6_after 56 = .ok (.iadd, 1) := by decide +kernel
theorem dX6_after_57 : decode cX6_after 57 = .ok (.iconst 3, 1) := by decide +kernel
theorem dX6_after_58 : decode cX6_after 58 = .ok (.irem, 1) := by decide +kernel
theorem dX6_after_59 : decode cX6_after 59 = .ok (.goto 4, 3) := by decide +kernel
theorem dX6_after_62 : decode cX6_after 62 = .ok (.iload_n 1, 1) := by decide +kernel
theorem dX6_after_63 : decode cX6_after 63 = .ok (.ireturn, 1) := by decide +kernel
theorem dX6_after_64 : decode cX6_after 64 = .ok (.iload_n 2, 1) := by decide +kernel
theorem dX6_after_65 : decode cX6_after 65 = .ok (.ifCond .eq 7, 3) := by decide +kernel
theorem dX6_after_68 : decode cX6_after 68 = .ok (.iload_n 1, 1) := by decide +kernel
theorem dX6_after_69 : decode cX6_after 69 = .ok (.goto 6, 3) := by decide +kernel
theorem dX6_after_72 : decode cX6_after 72 = .ok (.iconst 1, 1) := by decide +kernel
theorem dX6_after_73 : decode cX6_after 73 = .ok (.iload_n 1, 1) := by decide +kernel
theorem dX6_after_74 : decode cX6_after 74 = .ok (.isub, 1) := by decide +kernel
theorem dX6_after_75 : decode cX6_after 75 = .ok (.ireturn, 1) := by decide +kernel
theorem dX6_doesShow_0 : decode cX6_doesShow 0 = .ok (.iload_n 0, 1) := by decide +kernel
theorem dX6_doesShow_1 : decode cX6_doesShow 1 = .ok (.iconst 5, 1) := by decide +kernel
theorem dX6_doesShow_2 : decode cX6_doesShow 2 = .ok (.if_icmp .ne 15, 3) := by decide +kernel
theorem dX6_doesShow_5 : decode cX6_doesShow 5 = .ok (.iload_n 1, 1) := by decide +kernel
theorem dX6_doesShow_6 : decode cX6_doesShow 6 = .ok (.ifCond .ne 7, 3) := by decide +kernel
theorem dX6_doesShow_9 : decode cX6_doesShow 9 = .ok (.iconst 1, 1) := by decide +kernel
theorem dX6_doesShow_10 : decode cX6_doesShow 10 = .ok (.goto 16, 3) := by decide +kernel
theorem dX6_doesShow_13 : decode cX6_doesShow 13 = .ok (.iconst 0, 1) := by decide +kernel
theorem dX6_doesShow_14 : decode cX6_doesShow 14 = .ok (.goto 12, 3) := by decide +kernel
theorem dX6_doesShow_17 : decode cX6_doesShow 17 = .ok (.iload_n 1, 1) := by decide +kernel
theorem dX6_doesShow_18 : decode cX6_doesShow 18 = .ok (.ifCond .le 7, 3) := by decide +kernel
theorem dX6_doesShow_21 : decode cX6_doesShow 21 = .ok (.iconst 1, 1) := by decide +kernel
theorem dX6_doesShow_22 : decode cX6_doesShow 22 = .ok (.goto 4, 3) := by decide +kernel
theorem dX6_doesShow_25 : decode cX6_doesShow 25 = .ok (.iconst 0, 1) := by decide +kernel
theorem dX6_doesShow_26 : decode cX6_doesShow 26 = .ok (.ireturn, 1) := by decide +kernel
theorem dX6_shownBy_0 : decode cX6_shownBy 0 = .ok (.iconst 0, 1) := by decide +kernel
theorem dX6_shownBy_1 : decode cX6_shownBy 1 = .ok (.istore_n 3, 1) := by decide +kernel
theorem dX6_shownBy_2 : decode cX6_shownBy 2 = .ok (.iconst 0, 1) := by decide +kernel
theorem dX6_shownBy_3 : decode cX6_shownBy 3 = .ok (.istore 4, 2) := by decide +kernel
theorem dX6_shownBy_5 : decode cX6_shownBy 5 = .ok (.iload 4, 2) := by decide +kernel
theorem dX6_shownBy_7 : decode cX6_shownBy 7 = .ok (.aload_n 0, 1) := by decide +kernel
theorem dX6_shownBy_8 : decode cX6_shownBy 8 = .ok (.getfield 94, 3) := by decide +kernel
theorem dX6_shownBy_11 : decode cX6_shownBy 11 = .ok (.if_icmp .ge 53, 3) := by decide +kernel
theorem dX6_shownBy_14 : decode cX6_shownBy 14 = .ok (.iload_n 3, 1) := by decide +kernel
theorem dX6_shownBy_15 : decode cX6_shownBy 15 = .ok (.aload_n 1, 1) := by decide +kernel
theorem dX6_shownBy_16 : decode cX6_shownBy 16 = .ok (.iload_n 2, 1) := by decide +kernel
theorem dX6_shownBy_17 : decode cX6_shownBy 17 = .ok (.bipush 10, 2) := by decide +kernel
theorem dX6_shownBy_19 : decode cX6_shownBy 19 = .ok (.iadd, 1) := by decide +kernel
theorem dX6_shownBy_20 : decode cX6_shownBy 20 = .ok (.iaload, 1) := by decide +kernel
theorem dX6_shownBy_21 : decode cX6_shownBy 21 = .ok (.iload 4, 2) := by decide +kernel
theorem dX6_shownBy_23 : decode cX6_shownBy 23 = .ok (.invokestatic 104, 3) := by decide +kernel
theorem dX6_shownBy_26 : decode cX6_shownBy 26 = .ok (.ifCond .ne 29, 3) := by decide +kernel
theorem dX6_shownBy_29 : decode cX6_shownBy 29 = .ok (.aload_n 0, 1) := by decide +kernel
theorem dX6_shownBy_30 : decode cX6_shownBy 30 = .ok (.getfield 33, 3) := by decide +kernel
theorem dX6_shownBy_33 : decode cX6_shownBy 33 = .ok (.iload 4, 2) := by decide +kernel
theorem dX6_shownBy_35 : decode cX6_shownBy 35 = .ok (.iaload, 1) := by decide +kernel
theorem dX6_shownBy_36 : decode cX6_shownBy 36 = .ok (.aload_n 1, 1) := by decide +kernel
theorem dX6_shownBy_37 : decode cX6_shownBy 37 = .ok (.iload_n 2, 1) := by decide +kernel
theorem dX6_shownBy_38 : decode cX6_shownBy 38 = .ok (.iload 4, 2) := by decide +kernel
theorem dX6_shownBy_40 : decode cX6_shownBy 40 = .ok (.iadd, 1) := by decide +kernel
theorem dX6_shownBy_41 : decode cX6_shownBy 41 = .ok (.iaload, 1) := by decide +kernel
theorem dX6_shownBy_42 : decode cX6_shownBy 42 = .ok (.invokestatic 107, 3) := by decide +kernel
theorem dX6_shownBy_45 : decode cX6_shownBy 45 = .ok (.ifCond .eq 10, 3) := by decide +kernel
theorem dX6_shownBy_48 : decode cX6_shownBy 48 = .ok (.iconst 1, 1) := by decide +kernel
theorem dX6_shownBy_49 : decode cX6_shownBy 49 = .ok (.iload 4, 2) := by decide +kernel
theorem dX6_shownBy_51 : decode cX6_shownBy 51 = .ok (.ishl, 1) := by decide +kernel
theorem dX6_shownBy_52 : decode cX6_shownBy 52 = .ok (.goto 4, 3) := by decide +kernel
theorem dX6_shownBy_55 : decode cX6_shownBy 55 = .ok (.iconst 0, 1) := by decide +kernel
theorem dX6_shownBy_56 : decode cX6_shownBy 56 = .ok (.ior, 1) := by decide +kernel
theorem dX6_shownBy_57 : decode cX6_shownBy 57 = .ok (.istore_n 3, 1) := by decide +kernel
theorem dX6_shownBy_58 : decode cX6_shownBy 58 = .ok (.iinc 4 1, 3) := by decide +kernel
theorem dX6_shownBy_61 : decode cX6_shownBy 61 = .ok (.goto (-56), 3) := by decide +kernel
theorem dX6_shownBy_64 : decode cX6_shownBy 64 = .ok (.iload_n 3, 1) := by decide +kernel
theorem dX6_shownBy_65 : decode cX6_shownBy 65 = .ok (.ireturn, 1) := by decide +kernel
theorem dX6_shown_0 : decode cX6_shown 0 = .ok (.aload_n 0, 1) := by decide +kernel
theorem dX6_shown_1 : decode cX6_shown 1 = .ok (.aload_n 0, 1) := by decide +kernel
theorem dX6_shown_2 : decode cX6_shown 2 = .ok (.getfield 39, 3) := by decide +kernel
theorem dX6_shown_5 : decode cX6_shown 5 = .ok (.bipush 11, 2) := by decide +kernel
theorem dX6_shown_7 : decode cX6_shown 7 = .ok (.aload_n 0, 1) := by decide +kernel
theorem dX6_shown_8 : decode cX6_shown 8 = .ok (.getfield 97, 3) := by decide +kernel
theorem dX6_shown_11 : decode cX6_shown 11 = .ok (.imul, 1) := by decide +kernel
theorem dX6_shown_12 : decode cX6_shown 12 = .ok (.invokevirtual 110, 3) := by decide +kernel
theorem dX6_shown_15 : decode cX6_shown 15 = .ok (.ireturn, 1) := by decide +kernel
theorem dX6_pressOn_0 : decode cX6_pressOn 0 = .ok (.iconst 0, 1) := by decide +kernel
theorem dX6_pressOn_1 : decode cX6_pressOn 1 = .ok (.istore 5, 2) := by decide +kernel
theorem dX6_pressOn_3 : decode cX6_pressOn 3 = .ok (.iload 5, 2) := by decide +kernel
theorem dX6_pressOn_5 : decode cX6_pressOn 5 = .ok (.bipush 9, 2) := by decide +kernel
theorem dX6_pressOn_7 : decode cX6_pressOn 7 = .ok (.if_icmp .ge 74, 3) := by decide +kernel
theorem dX6_pressOn_10 : decode cX6_pressOn 10 = .ok (.iload_n 3, 1) := by decide +kernel
theorem dX6_pressOn_11 : decode cX6_pressOn 11 = .ok (.iload 5, 2) := by decide +kernel
theorem dX6_pressOn_13 : decode cX6_pressOn 13 = .ok (.invokestatic 100, 3) := by decide +kernel
theorem dX6_pressOn_16 : decode cX6_pressOn 16 = .ok (.ifCond .eq 59, 3) := by decide +kernel
theorem dX6_pressOn_19 : decode cX6_pressOn 19 = .ok (.aload_n 1, 1) := by decide +kernel
theorem dX6_pressOn_20 : decode cX6_pressOn 20 = .ok (.iload_n 2, 1) := by decide +kernel
theorem dX6_pressOn_21 : decode cX6_pressOn 21 = .ok (.bipush 10, 2) := by decide +kernel
theorem dX6_pressOn_23 : decode cX6_pressOn 23 = .ok (.iadd, 1) := by decide +kernel
theorem dX6_pressOn_24 : decode cX6_pressOn 24 = .ok (.iaload, 1) := by decide +kernel
theorem dX6_pressOn_25 : decode cX6_pressOn 25 = .ok (.iload 4, 2) := by decide +kernel
theorem dX6_pressOn_27 : decode cX6_pressOn 27 = .ok (.ior, 1) := by decide +kernel
theorem dX6_pressOn_28 : decode cX6_pressOn 28 = .ok (.iload 5, 2) := by decide +kernel
theorem dX6_pressOn_30 : decode cX6_pressOn 30 = .ok (.invokestatic 104, 3) := by decide +kernel
theorem dX6_pressOn_33 : decode cX6_pressOn 33 = .ok (.ifCond .ne 42, 3) := by decide +kernel
theorem dX6_pressOn_36 : decode cX6_pressOn 36 = .ok (.aload_n 1, 1) := by decide +kernel
theorem dX6_pressOn_37 : decode cX6_pressOn 37 = .ok (.iload_n 2, 1) := by decide +kernel
theorem dX6_pressOn_38 : decode cX6_pressOn 38 = .ok (.iload 5, 2) := by decide +kernel
theorem dX6_pressOn_40 : decode cX6_pressOn 40 = .ok (.iadd, 1) := by decide +kernel
theorem dX6_pressOn_41 : decode cX6_pressOn 41 = .ok (.aload_n 0, 1) := by decide +kernel
theorem dX6_pressOn_42 : decode cX6_pressOn 42 = .ok (.getfield 33, 3) := by decide +kernel
theorem dX6_pressOn_45 : decode cX6_pressOn 45 = .ok (.iload 5, 2) := by decide +kernel
theorem dX6_pressOn_47 : decode cX6_pressOn 47 = .ok (.iaload, 1) := by decide +kernel
theorem dX6_pressOn_48 : decode cX6_pressOn 48 = .ok (.aload_n 1, 1) := by decide +kernel
theorem dX6_pressOn_49 : decode cX6_pressOn 49 = .ok (.iload_n 2, 1) := by decide +kernel
theorem dX6_pressOn_50 : decode cX6_pressOn 50 = .ok (.iload 5, 2) := by decide +kernel
theorem dX6_pressOn_52 : decode cX6_pressOn 52 = .ok (.iadd, 1) := by decide +kernel
theorem dX6_pressOn_53 : decode cX6_pressOn 53 = .ok (.iaload, 1) := by decide +kernel
theorem dX6_pressOn_54 : decode cX6_pressOn 54 = .ok (.iload_n 3, 1) := by decide +kernel
theorem dX6_pressOn_55 : decode cX6_pressOn 55 = .ok (.iload 5, 2) := by decide +kernel
theorem dX6_pressOn_57 : decode cX6_pressOn 57 = .ok (.if_icmp .ne 7, 3) := by decide +kernel
theorem dX6_pressOn_60 : decode cX6_pressOn 60 = .ok (.iconst 1, 1) := by decide +kernel
theorem dX6_pressOn_61 : decode cX6_pressOn 61 = .ok (.goto 4, 3) := by decide +kernel
theorem dX6_pressOn_64 : decode cX6_pressOn 64 = .ok (.iconst 0, 1) := by decide +kernel
theorem dX6_pressOn_65 : decode cX6_pressOn 65 = .ok (.aload_n 1, 1) := by decide +kernel
theorem dX6_pressOn_66 : decode cX6_pressOn 66 = .ok (.iload_n 2, 1) := by decide +kernel
theorem dX6_pressOn_67 : decode cX6_pressOn 67 = .ok (.bipush 9, 2) := by decide +kernel
theorem dX6_pressOn_69 : decode cX6_pressOn 69 = .ok (.iadd, 1) := by decide +kernel
theorem dX6_pressOn_70 : decode cX6_pressOn 70 = .ok (.iaload, 1) := by decide +kernel
theorem dX6_pressOn_71 : decode cX6_pressOn 71 = .ok (.invokestatic 114, 3) := by decide +kernel
theorem dX6_pressOn_74 : decode cX6_pressOn 74 = .ok (.iastore, 1) := by decide +kernel
theorem dX6_pressOn_75 : decode cX6_pressOn 75 = .ok (.iinc 5 1, 3) := by decide +kernel
theorem dX6_pressOn_78 : decode cX6_pressOn 78 = .ok (.goto (-75), 3) := by decide +kernel
theorem dX6_pressOn_81 : decode cX6_pressOn 81 = .ok (.aload_n 1, 1) := by decide +kernel
theorem dX6_pressOn_82 : decode cX6_pressOn 82 = .ok (.iload_n 2, 1) := by decide +kernel
theorem dX6_pressOn_83 : decode cX6_pressOn 83 = .ok (.bipush 9, 2) := by decide +kernel
theorem dX6_pressOn_85 : decode cX6_pressOn 85 = .ok (.iadd, 1) := by decide +kernel
theorem dX6_pressOn_86 : decode cX6_pressOn 86 = .ok (.dup2, 1) := by decide +kernel
theorem dX6_pressOn_87 : decode cX6_pressOn 87 = .ok (.iaload, 1) := by decide +kernel
theorem dX6_pressOn_88 : decode cX6_pressOn 88 = .ok (.iconst 1, 1) := by decide +kernel
theorem dX6_pressOn_89 : decode cX6_pressOn 89 = .ok (.iadd, 1) := by decide +kernel
theorem dX6_pressOn_90 : decode cX6_pressOn 90 = .ok (.iastore, 1) := by decide +kernel
theorem dX6_pressOn_91 : decode cX6_pressOn 91 = .ok (.return_, 1) := by decide +kernel
theorem dX6_factOf_0 : decode cX6_factOf 0 = .ok (.iload_n 2, 1) := by decide +kernel
theorem dX6_factOf_1 : decode cX6_factOf 1 = .ok (.tableswitch 89 0 4 #[35, 42, 48, 65, 84], 35) := by decide +kernel
theorem dX6_factOf_36 : decode cX6_factOf 36 = .ok (.aload_n 0, 1) := by decide +kernel
theorem dX6_factOf_37 : decode cX6_factOf 37 = .ok (.getfield 33, 3) := by decide +kernel
theorem dX6_factOf_40 : decode cX6_factOf 40 = .ok (.iload_n 1, 1) := by decide +kernel
theorem dX6_factOf_41 : decode cX6_factOf 41 = .ok (.iaload, 1) := by decide +kernel
theorem dX6_factOf_42 : decode cX6_factOf 42 = .ok (.ireturn, 1) := by decide +kernel
theorem dX6_factOf_43 : decode cX6_factOf 43 = .ok (.aload_n 0, 1) := by decide +kernel
theorem dX6_factOf_44 : decode cX6_factOf 44 = .ok (.iload_n 1, 1) := by decide +kernel
theorem dX6_factOf_45 : decode cX6_factOf 45 = .ok (.invokevirtual 118, 3) := by decide +kernel
theorem dX6_factOf_48 : decode cX6_factOf 48 = .ok (.ireturn, 1) := by decide +kernel
theorem dX6_factOf_49 : decode cX6_factOf 49 = .ok (.aload_n 0, 1) := by decide +kernel
theorem dX6_factOf_50 : decode cX6_factOf 50 = .ok (.invokevirtual 121, 3) := by decide +kernel
theorem dX6_factOf_53 : decode cX6_factOf 53 = .ok (.iload_n 1, 1) := by decide +kernel
theorem dX6_factOf_54 : decode cX6_factOf 54 = .ok (.invokestatic 104, 3) := by decide +kernel
theorem dX6_factOf_57 : decode cX6_factOf 57 = .ok (.ifCond .eq 7, 3) := by decide +kernel
theorem dX6_factOf_60 : decode cX6_factOf 60 = .ok (.iconst 1, 1) := by decide +kernel
theorem dX6_factOf_61 : decode cX6_factOf 61 = .ok (.goto 4, 3) := by decide +kernel
theorem dX6_factOf_64 : decode cX6_factOf 64 = .ok (.iconst 0, 1) := by decide +kernel
theorem dX6_factOf_65 : decode cX6_factOf 65 = .ok (.ireturn, 1) := by decide +kernel
theorem dX6_factOf_66 : decode cX6_factOf 66 = .ok (.aload_n 0, 1) := by decide +kernel
theorem dX6_factOf_67 : decode cX6_factOf 67 = .ok (.bipush 10, 2) := by decide +kernel
theorem dX6_factOf_69 : decode cX6_factOf 69 = .ok (.invokevirtual 118, 3) := by decide +kernel
theorem dX6_factOf_72 : decode cX6_factOf 72 = .ok (.iload_n 1, 1) := by decide +kernel
theorem dX6_factOf_73 : decode cX6_factOf 73 = .ok (.invokestatic 104, 3) := by decide +kernel
theorem dX6_factOf_76 : decode cX6_factOf 76 = .ok (.ifCond .eq 7, 3) := by decide +kernel
theorem dX6_factOf_79 : decode cX6_factOf 79 = .ok (.iconst 1, 1) := by decide +kernel
theorem dX6_factOf_80 : decode cX6_factOf 80 = .ok (.goto 4, 3) := by decide +kernel
theorem dX6_factOf_83 : decode cX6_factOf 83 = .ok (.iconst 0, 1) := by decide +kernel
theorem dX6_factOf_84 : decode cX6_factOf 84 = .ok (.ireturn, 1) := by decide +kernel
theorem dX6_factOf_85 : decode cX6_factOf 85 = .ok (.iload_n 1, 1) := by decide +kernel
theorem dX6_factOf_86 : decode cX6_factOf 86 = .ok (.invokestatic 125, 3) := by decide +kernel
theorem dX6_factOf_89 : decode cX6_factOf 89 = .ok (.ireturn, 1) := by decide +kernel
theorem dX6_factOf_90 : decode cX6_factOf 90 = .ok (.aload_n 0, 1) := by decide +kernel
theorem dX6_factOf_91 : decode cX6_factOf 91 = .ok (.getfield 33, 3) := by decide +kernel
theorem dX6_factOf_94 : decode cX6_factOf 94 = .ok (.iload_n 1, 1) := by decide +kernel
theorem dX6_factOf_95 : decode cX6_factOf 95 = .ok (.iaload, 1) := by decide +kernel
theorem dX6_factOf_96 : decode cX6_factOf 96 = .ok (.aload_n 0, 1) := by decide +kernel
theorem dX6_factOf_97 : decode cX6_factOf 97 = .ok (.iload_n 1, 1) := by decide +kernel
theorem dX6_factOf_98 : decode cX6_factOf 98 = .ok (.invokevirtual 118, 3) := by decide +kernel
theorem dX6_factOf_101 : decode cX6_factOf 101 = .ok (.iconst 1, 1) := by decide +kernel
theorem dX6_factOf_102 : decode cX6_factOf 102 = .ok (.aload_n 0, 1) := by decide +kernel
theorem dX6_factOf_103 : decode cX6_factOf 103 = .ok (.bipush 9, 2) := by decide +kernel
theorem dX6_factOf_105 : decode cX6_factOf 105 = .ok (.invokevirtual 118, 3) := by decide +kernel
theorem dX6_factOf_108 : decode cX6_factOf 108 = .ok (.invokestatic 114, 3) := by decide +kernel
theorem dX6_factOf_111 : decode cX6_factOf 111 = .ok (.ireturn, 1) := by decide +kernel
theorem dX6_lamp_0 : decode cX6_lamp 0 = .ok (.aload_n 0, 1) := by decide +kernel
theorem dX6_lamp_1 : decode cX6_lamp 1 = .ok (.iload_n 1, 1) := by decide +kernel
theorem dX6_lamp_2 : decode cX6_lamp 2 = .ok (.invokevirtual 128, 3) := by decide +kernel
theorem dX6_lamp_5 : decode cX6_lamp 5 = .ok (.ifCond .eq 25, 3) := by decide +kernel
theorem dX6_lamp_8 : decode cX6_lamp 8 = .ok (.iload_n 2, 1) := by decide +kernel
theorem dX6_lamp_9 : decode cX6_lamp 9 = .ok (.iconst 0, 1) := by decide +kernel
theorem dX6_lamp_10 : decode cX6_lamp 10 = .ok (.iconst 5, 1) := by decide +kernel
theorem dX6_lamp_11 : decode cX6_lamp 11 = .ok (.invokestatic 64, 3) := by decide +kernel
theorem dX6_lamp_14 : decode cX6_lamp 14 = .ok (.ifCond .eq 16, 3) := by decide +kernel
theorem dX6_lamp_17 : decode cX6_lamp 17 = .ok (.aload_n 0, 1) := by decide +kernel
theorem dX6_lamp_18 : decode cX6_lamp 18 = .ok (.aload_n 0, 1) := by decide +kernel
theorem dX6_lamp_19 : decode cX6_lamp 19 = .ok (.iload_n 1, 1) := by decide +kernel
theorem dX6_lamp_20 : decode cX6_lamp 20 = .ok (.iload_n 2, 1) := by decide +kernel
theorem dX6_lamp_21 : decode cX6_lamp 21 = .ok (.invokevirtual 131, 3) := by decide +kernel
theorem dX6_lamp_24 : decode cX6_lamp 24 = .ok (.invokevirtual 76, 3) := by decide +kernel
theorem dX6_lamp_27 : decode cX6_lamp 27 = .ok (.goto 4, 3) := by decide +kernel
theorem dX6_lamp_30 : decode cX6_lamp 30 = .ok (.iconst (-1), 1) := by decide +kernel
theorem dX6_lamp_31 : decode cX6_lamp 31 = .ok (.ireturn, 1) := by decide +kernel
theorem dX6_mark_0 : decode cX6_mark 0 = .ok (.aload_n 0, 1) := by decide +kernel
theorem dX6_mark_1 : decode cX6_mark 1 = .ok (.iload_n 1, 1) := by decide +kernel
theorem dX6_mark_2 : decode cX6_mark 2 = .ok (.invokevirtual 128, 3) := by decide +kernel
theorem dX6_mark_5 : decode cX6_mark 5 = .ok (.ifCond .eq 12, 3) := by decide +kernel
theorem dX6_mark_8 : decode cX6_mark 8 = .ok (.iload_n 2, 1) := by decide +kernel
theorem dX6_mark_9 : decode cX6_mark 9 = .ok (.iconst 1, 1) := by decide +kernel
theorem dX6_mark_10 : decode cX6_mark 10 = .ok (.iconst 5, 1) := by decide +kernel
theorem dX6_mark_11 : decode cX6_mark 11 = .ok (.invokestatic 64, 3) := by decide +kernel
theorem dX6_mark_14 : decode cX6_mark 14 = .ok (.ifCond .ne 5, 3) := by decide +kernel
theorem dX6_mark_17 : decode cX6_mark 17 = .ok (.iconst (-1), 1) := by decide +kernel
theorem dX6_mark_18 : decode cX6_mark 18 = .ok (.ireturn, 1) := by decide +kernel
theorem dX6_mark_19 : decode cX6_mark 19 = .ok (.aload_n 0, 1) := by decide +kernel
theorem dX6_mark_20 : decode cX6_mark 20 = .ok (.getfield 33, 3) := by decide +kernel
theorem dX6_mark_23 : decode cX6_mark 23 = .ok (.iload_n 1, 1) := by decide +kernel
theorem dX6_mark_24 : decode cX6_mark 24 = .ok (.iaload, 1) := by decide +kernel
theorem dX6_mark_25 : decode cX6_mark 25 = .ok (.iload_n 2, 1) := by decide +kernel
theorem dX6_mark_26 : decode cX6_mark 26 = .ok (.if_icmp .eq 39, 3) := by decide +kernel
theorem dX6_mark_29 : decode cX6_mark 29 = .ok (.iload_n 2, 1) := by decide +kernel
theorem dX6_mark_30 : decode cX6_mark 30 = .ok (.iconst 1, 1) := by decide +kernel
theorem dX6_mark_31 : decode cX6_mark 31 = .ok (.if_icmp .ne 13, 3) := by decide +kernel
theorem dX6_mark_34 : decode cX6_mark 34 = .ok (.aload_n 0, 1) := by decide +kernel
theorem dX6_mark_35 : decode cX6_mark 35 = .ok (.getfield 33, 3) := by decide +kernel
theorem dX6_mark_38 : decode cX6_mark 38 = .ok (.iload_n 1, 1) := by decide +kernel
theorem dX6_mark_39 : decode cX6_mark 39 = .ok (.iaload, 1) := by decide +kernel
theorem dX6_mark_40 : decode cX6_mark 40 = .ok (.iconst 4, 1) := by decide +kernel
theorem dX6_mark_41 : decode cX6_mark 41 = .ok (.if_icmp .eq 24, 3) := by decide +kernel
theorem dX6_mark_44 : decode cX6_mark 44 = .ok (.iload_n 2, 1) := by decide +kernel
theorem dX6_mark_45 : decode cX6_mark 45 = .ok (.iconst 3, 1) := by decide +kernel
theorem dX6_mark_46 : decode cX6_mark 46 = .ok (.if_icmp .ne 13, 3) := by decide +kernel
theorem dX6_mark_49 : decode cX6_mark 49 = .ok (.aload_n 0, 1) := by decide +kernel
theorem dX6_mark_50 : decode cX6_mark 50 = .ok (.getfield 33, 3) := by decide +kernel
theorem dX6_mark_53 : decode cX6_mark 53 = .ok (.iload_n 1, 1) := by decide +kernel
theorem dX6_mark_54 : decode cX6_mark 54 = .ok (.iaload, 1) := by decide +kernel
theorem dX6_mark_55 : decode cX6_mark 55 = .ok (.iconst 5, 1) := by decide +kernel
theorem dX6_mark_56 : decode cX6_mark 56 = .ok (.if_icmp .eq 9, 3) := by decide +kernel
theorem dX6_mark_59 : decode cX6_mark 59 = .ok (.aload_n 0, 1) := by decide +kernel
theorem dX6_mark_60 : decode cX6_mark 60 = .ok (.iconst 3, 1) := by decide +kernel
theorem dX6_mark_61 : decode cX6_mark 61 = .ok (.invokevirtual 72, 3) := by decide +kernel
theorem dX6_mark_64 : decode cX6_mark 64 = .ok (.ireturn, 1) := by decide +kernel
theorem dX6_mark_65 : decode cX6_mark 65 = .ok (.iconst 0, 1) := by decide +kernel
theorem dX6_mark_66 : decode cX6_mark 66 = .ok (.istore_n 3, 1) := by decide +kernel
theorem dX6_mark_67 : decode cX6_mark 67 = .ok (.iload_n 2, 1) := by decide +kernel
theorem dX6_mark_68 : decode cX6_mark 68 = .ok (.tableswitch 107 1 4 #[32, 42, 88, 98], 32) := by decide +kernel
theorem dX6_mark_100 : decode cX6_mark 100 = .ok (.iconst 3, 1) := by decide +kernel
theorem dX6_mark_101 : decode cX6_mark 101 = .ok (.aload_n 0, 1) := by decide +kernel
theorem dX6_mark_102 : decode cX6_mark 102 = .ok (.iload_n 1, 1) := by decide +kernel
theorem dX6_mark_103 : decode cX6_mark 103 = .ok (.invokevirtual 118, 3) := by decide +kernel
theorem dX6_mark_106 : decode cX6_mark 106 = .ok (.isub, 1) := by decide +kernel
theorem dX6_mark_107 : decode cX6_mark 107 = .ok (.iconst 3, 1) := by decide +kernel
theorem dX6_mark_108 : decode cX6_mark 108 = .ok (.irem, 1) := by decide +kernel
theorem dX6_mark_109 : decode cX6_mark 109 = .ok (.ireturn, 1) := by decide +kernel
theorem dX6_mark_110 : decode cX6_mark 110 = .ok (.iconst 0, 1) := by decide +kernel
theorem dX6_mark_111 : decode cX6_mark 111 = .ok (.istore 4, 2) := by decide +kernel
theorem dX6_mark_113 : decode cX6_mark 113 = .ok (.iload 4, 2) := by decide +kernel
theorem dX6_mark_115 : decode cX6_mark 115 = .ok (.bipush 9, 2) := by decide +kernel
theorem dX6_mark_117 : decode cX6_mark 117 = .ok (.if_icmp .ge 37, 3) := by decide +kernel
theorem dX6_mark_120 : decode cX6_mark 120 = .ok (.iload_n 3, 1) := by decide +kernel
theorem dX6_mark_121 : decode cX6_mark 121 = .ok (.aload_n 0, 1) := by decide +kernel
theorem dX6_mark_122 : decode cX6_mark 122 = .ok (.getfield 33, 3) := by decide +kernel
theorem dX6_mark_125 : decode cX6_mark 125 = .ok (.iload 4, 2) := by decide +kernel
theorem dX6_mark_127 : decode cX6_mark 127 = .ok (.iaload, 1) := by decide +kernel
theorem dX6_mark_128 : decode cX6_mark 128 = .ok (.iconst 2, 1) := by decide +kernel
theorem dX6_mark_129 : decode cX6_mark 129 = .ok (.if_icmp .ne 16, 3) := by decide +kernel
theorem dX6_mark_132 : decode cX6_mark 132 = .ok (.aload_n 0, 1) := by decide +kernel
theorem dX6_mark_133 : decode cX6_mark 133 = .ok (.iload 4, 2) := by decide +kernel
theorem dX6_mark_135 : decode cX6_mark 135 = .ok (.invokevirtual 118, 3) := by decide +kernel
theorem dX6_mark_138 : decode cX6_mark 138 = .ok (.ifCond .ne 7, 3) := by decide +kernel
theorem dX6_mark_141 : decode cX6_mark 141 = .ok (.iconst 1, 1) := by decide +kernel
theorem dX6_mark_142 : decode cX6_mark 142 = .ok (.goto 4, 3) := by decide +kernel
theorem dX6_mark_145 : decode cX6_mark 145 = .ok (.iconst 0, 1) := by decide +kernel
theorem dX6_mark_146 : decode cX6_mark 146 = .ok (.iadd, 1) := by decide +kernel
theorem dX6_mark_147 : decode cX6_mark 147 = .ok (.istore_n 3, 1) := by decide +kernel
theorem dX6_mark_148 : decode cX6_mark 148 = .ok (.iinc 4 1, 3) := by decide +kernel
theorem dX6_mark_151 : decode cX6_mark 151 = .ok (.goto (-38), 3) := by decide +kernel
theorem dX6_mark_154 : decode cX6_mark 154 = .ok (.iload_n 3, 1) := by decide +kernel
theorem dX6_mark_155 : decode cX6_mark 155 = .ok (.ireturn, 1) := by decide +kernel
theorem dX6_mark_156 : decode cX6_mark 156 = .ok (.iload_n 1, 1) := by decide +kernel
theorem dX6_mark_157 : decode cX6_mark 157 = .ok (.invokestatic 125, 3) := by decide +kernel
theorem dX6_mark_160 : decode cX6_mark 160 = .ok (.invokestatic 135, 3) := by decide +kernel
theorem dX6_mark_163 : decode cX6_mark 163 = .ok (.iconst 1, 1) := by decide +kernel
theorem dX6_mark_164 : decode cX6_mark 164 = .ok (.isub, 1) := by decide +kernel
theorem dX6_mark_165 : decode cX6_mark 165 = .ok (.ireturn, 1) := by decide +kernel
theorem dX6_mark_166 : decode cX6_mark 166 = .ok (.aload_n 0, 1) := by decide +kernel
theorem dX6_mark_167 : decode cX6_mark 167 = .ok (.bipush 9, 2) := by decide +kernel
theorem dX6_mark_169 : decode cX6_mark 169 = .ok (.invokevirtual 118, 3) := by decide +kernel
theorem dX6_mark_172 : decode cX6_mark 172 = .ok (.iconst 2, 1) := by decide +kernel
theorem dX6_mark_173 : decode cX6_mark 173 = .ok (.irem, 1) := by decide +kernel
theorem dX6_mark_174 : decode cX6_mark 174 = .ok (.ireturn, 1) := by decide +kernel
theorem dX6_mark_175 : decode cX6_mark 175 = .ok (.aload_n 0, 1) := by decide +kernel
theorem dX6_mark_176 : decode cX6_mark 176 = .ok (.invokevirtual 121, 3) := by decide +kernel
theorem dX6_mark_179 : decode cX6_mark 179 = .ok (.iconst 1, 1) := by decide +kernel
theorem dX6_mark_180 : decode cX6_mark 180 = .ok (.iload_n 1, 1) := by decide +kernel
theorem dX6_mark_181 : decode cX6_mark 181 = .ok (.ishl, 1) := by decide +kernel
theorem dX6_mark_182 : decode cX6_mark 182 = .ok (.iconst (-1), 1) := by decide +kernel
theorem dX6_mark_183 : decode cX6_mark 183 = .ok (.ixor, 1) := by decide +kernel
theorem dX6_mark_184 : decode cX6_mark 184 = .ok (.iand, 1) := by decide +kernel
theorem dX6_mark_185 : decode cX6_mark 185 = .ok (.invokestatic 135, 3) := by decide +kernel
theorem dX6_mark_188 : decode cX6_mark 188 = .ok (.ireturn, 1) := by decide +kernel
theorem dX6_begin_0 : decode cX6_begin 0 = .ok (.iconst 0, 1) := by decide +kernel
theorem dX6_begin_1 : decode cX6_begin 1 = .ok (.istore_n 1, 1) := by decide +kernel
theorem dX6_begin_2 : decode cX6_begin 2 = .ok (.iload_n 1, 1) := by decide +kernel
theorem dX6_begin_3 : decode cX6_begin 3 = .ok (.bipush 11, 2) := by decide +kernel
theorem dX6_begin_5 : decode cX6_begin 5 = .ok (.if_icmp .ge 39, 3) := by decide +kernel
theorem dX6_begin_8 : decode cX6_begin 8 = .ok (.aload_n 0, 1) := by decide +kernel
theorem dX6_begin_9 : decode cX6_begin 9 = .ok (.getfield 39, 3) := by decide +kernel
theorem dX6_begin_12 : decode cX6_begin 12 = .ok (.bipush 11, 2) := by decide +kernel
theorem dX6_begin_14 : decode cX6_begin 14 = .ok (.aload_n 0, 1) := by decide +kernel
theorem dX6_begin_15 : decode cX6_begin 15 = .ok (.getfield 97, 3) := by decide +kernel
theorem dX6_begin_18 : decode cX6_begin 18 = .ok (.iconst 1, 1) := by decide +kernel
theorem dX6_begin_19 : decode cX6_begin 19 = .ok (.iadd, 1) := by decide +kernel
theorem dX6_begin_20 : decode cX6_begin 20 = .ok (.imul, 1) := by decide +kernel
theorem dX6_begin_21 : decode cX6_begin 21 = .ok (.iload_n 1, 1) := by decide +kernel
theorem dX6_begin_22 : decode cX6_begin 22 = .ok (.iadd, 1) := by decide +kernel
theorem dX6_begin_23 : decode cX6_begin 23 = .ok (.aload_n 0, 1) := by decide +kernel
theorem dX6_begin_24 : decode cX6_begin 24 = .ok (.getfield 39, 3) := by decide +kernel
theorem dX6_begin_27 : decode cX6_begin 27 = .ok (.bipush 11, 2) := by decide +kernel
theorem dX6_begin_29 : decode cX6_begin 29 = .ok (.aload_n 0, 1) := by decide +kernel
theorem dX6_begin_30 : decode cX6_begin 30 = .ok (.getfield 97, 3) := by decide +kernel
theorem dX6_begin_33 : decode cX6_begin 33 = .ok (.imul, 1) := by decide +kernel
theorem dX6_begin_34 : decode cX6_begin 34 = .ok (.iload_n 1, 1) := by decide +kernel
theorem dX6_begin_35 : decode cX6_begin 35 = .ok (.iadd, 1) := by decide +kernel
theorem dX6_begin_36 : decode cX6_begin 36 = .ok (.iaload, 1) := by decide +kernel
theorem dX6_begin_37 : decode cX6_begin 37 = .ok (.iastore, 1) := by decide +kernel
theorem dX6_begin_38 : decode cX6_begin 38 = .ok (.iinc 1 1, 3) := by decide +kernel
theorem dX6_begin_41 : decode cX6_begin 41 = .ok (.goto (-39), 3) := by decide +kernel
theorem dX6_begin_44 : decode cX6_begin 44 = .ok (.aload_n 0, 1) := by decide +kernel
theorem dX6_begin_45 : decode cX6_begin 45 = .ok (.dup, 1) := by decide +kernel
theorem dX6_begin_46 : decode cX6_begin 46 = .ok (.getfield 97, 3) := by decide +kernel
theorem dX6_begin_49 : decode cX6_begin 49 = .ok (.iconst 1, 1) := by decide +kernel
theorem dX6_begin_50 : decode cX6_begin 50 = .ok (.iadd, 1) := by decide +kernel
theorem dX6_begin_51 : decode cX6_begin 51 = .ok (.putfield 97, 3) := by decide +kernel
theorem dX6_begin_54 : decode cX6_begin 54 = .ok (.return_, 1) := by decide +kernel
theorem dX6_press_0 : decode cX6_press 0 = .ok (.aload_n 0, 1) := by decide +kernel
theorem dX6_press_1 : decode cX6_press 1 = .ok (.getfield 94, 3) := by decide +kernel
theorem dX6_press_4 : decode cX6_press 4 = .ok (.ifCond .ne 6, 3) := by decide +kernel
theorem dX6_press_7 : decode cX6_press 7 = .ok (.bipush (-4), 2) := by decide +kernel
theorem dX6_press_9 : decode cX6_press 9 = .ok (.ireturn, 1) := by decide +kernel
theorem dX6_press_10 : decode cX6_press 10 = .ok (.iload_n 1, 1) := by decide +kernel
theorem dX6_press_11 : decode cX6_press 11 = .ok (.invokestatic 138, 3) := by decide +kernel
theorem dX6_press_14 : decode cX6_press 14 = .ok (.ifCond .ne 5, 3) := by decide +kernel
theorem dX6_press_17 : decode cX6_press 17 = .ok (.iconst (-1), 1) := by decide +kernel
theorem dX6_press_18 : decode cX6_press 18 = .ok (.ireturn, 1) := by decide +kernel
theorem dX6_press_19 : decode cX6_press 19 = .ok (.aload_n 0, 1) := by decide +kernel
theorem dX6_press_20 : decode cX6_press 20 = .ok (.getfield 97, 3) := by decide +kernel
theorem dX6_press_23 : decode cX6_press 23 = .ok (.bipush 40, 2) := by decide +kernel
theorem dX6_press_25 : decode cX6_press 25 = .ok (.if_icmp .ne 6, 3) := by decide +kernel
theorem dX6_press_28 : decode cX6_press 28 = .ok (.bipush (-2), 2) := by decide +kernel
theorem dX6_press_30 : decode cX6_press 30 = .ok (.ireturn, 1) := by decide +kernel
theorem dX6_press_31 : decode cX6_press 31 = .ok (.aload_n 0, 1) := by decide +kernel
theorem dX6_press_32 : decode cX6_press 32 = .ok (.invokevirtual 141, 3) := by decide +kernel
theorem dX6_press_35 : decode cX6_press 35 = .ok (.aload_n 0, 1) := by decide +kernel
theorem dX6_press_36 : decode cX6_press 36 = .ok (.aload_n 0, 1) := by decide +kernel
theorem dX6_press_37 : decode cX6_press 37 = .ok (.getfield 39, 3) := by decide +kernel
theorem dX6_press_40 : decode cX6_press 40 = .ok (.bipush 11, 2) := by decide +kernel
theorem dX6_press_42 : decode cX6_press 42 = .ok (.aload_n 0, 1) := by decide +kernel
theorem dX6_press_43 : decode cX6_press 43 = .ok (.getfield 97, 3) := by decide +kernel
theorem dX6_press_46 : decode cX6_press 46 = .ok (.imul, 1) := by decide +kernel
theorem dX6_press_47 : decode cX6_press 47 = .ok (.iload_n 1, 1) := by decide +kernel
theorem dX6_press_48 : decode cX6_press 48 = .ok (.iconst 0, 1) := by decide +kernel
theorem dX6_press_49 : decode cX6_press 49 = .ok (.invokevirtual 144, 3) := by decide +kernel
theorem dX6_press_52 : decode cX6_press 52 = .ok (.aload_n 0, 1) := by decide +kernel
theorem dX6_press_53 : decode cX6_press 53 = .ok (.invokevirtual 121, 3) := by decide +kernel
theorem dX6_press_56 : decode cX6_press 56 = .ok (.ireturn, 1) := by decide +kernel
theorem dX6_set_0 : decode cX6_set 0 = .ok (.aload_n 0, 1) := by decide +kernel
theorem dX6_set_1 : decode cX6_set 1 = .ok (.iload_n 1, 1) := by decide +kernel
theorem dX6_set_2 : decode cX6_set 2 = .ok (.invokevirtual 128, 3) := by decide +kernel
theorem dX6_set_5 : decode cX6_set 5 = .ok (.ifCond .eq 22, 3) := by decide +kernel
theorem dX6_set_8 : decode cX6_set 8 = .ok (.iload_n 2, 1) := by decide +kernel
theorem dX6_set_9 : decode cX6_set 9 = .ok (.iconst 0, 1) := by decide +kernel
theorem dX6_set_10 : decode cX6_set 10 = .ok (.aload_n 0, 1) := by decide +kernel
theorem dX6_set_11 : decode cX6_set 11 = .ok (.getfield 33, 3) := by decide +kernel
theorem dX6_set_14 : decode cX6_set 14 = .ok (.iload_n 1, 1) := by decide +kernel
theorem dX6_set_15 : decode cX6_set 15 = .ok (.iaload, 1) := by decide +kernel
theorem dX6_set_16 : decode cX6_set 16 = .ok (.invokestatic 88, 3) := by decide +kernel
theorem dX6_set_19 : decode cX6_set 19 = .ok (.iconst 1, 1) := by decide +kernel
theorem dX6_set_20 : decode cX6_set 20 = .ok (.isub, 1) := by decide +kernel
theorem dX6_set_21 : decode cX6_set 21 = .ok (.invokestatic 64, 3) := by decide +kernel
theorem dX6_set_24 : decode cX6_set 24 = .ok (.ifCond .ne 5, 3) := by decide +kernel
theorem dX6_set_27 : decode cX6_set 27 = .ok (.iconst (-1), 1) := by decide +kernel
theorem dX6_set_28 : decode cX6_set 28 = .ok (.ireturn, 1) := by decide +kernel
theorem dX6_set_29 : decode cX6_set 29 = .ok (.aload_n 0, 1) := by decide +kernel
theorem dX6_set_30 : decode cX6_set 30 = .ok (.iload_n 1, 1) := by decide +kernel
theorem dX6_set_31 : decode cX6_set 31 = .ok (.invokevirtual 118, 3) := by decide +kernel
theorem dX6_set_34 : decode cX6_set 34 = .ok (.istore_n 3, 1) := by decide +kernel
theorem dX6_set_35 : decode cX6_set 35 = .ok (.iload_n 3, 1) := by decide +kernel
theorem dX6_set_36 : decode cX6_set 36 = .ok (.iload_n 2, 1) := by decide +kernel
theorem dX6_set_37 : decode cX6_set 37 = .ok (.if_icmp .ne 6, 3) := by decide +kernel
theorem dX6_set_40 : decode cX6_set 40 = .ok (.bipush (-4), 2) := by decide +kernel
theorem dX6_set_42 : decode cX6_set 42 = .ok (.ireturn, 1) := by decide +kernel
theorem dX6_set_43 : decode cX6_set 43 = .ok (.aload_n 0, 1) := by decide +kernel
theorem dX6_set_44 : decode cX6_set 44 = .ok (.getfield 97, 3) := by decide +kernel
theorem dX6_set_47 : decode cX6_set 47 = .ok (.bipush 40, 2) := by decide +kernel
theorem dX6_set_49 : decode cX6_set 49 = .ok (.if_icmp .ne 6, 3) := by decide +kernel
theorem dX6_set_52 : decode cX6_set 52 = .ok (.bipush (-2), 2) := by decide +kernel
theorem dX6_set_54 : decode cX6_set 54 = .ok (.ireturn, 1) := by decide +kernel
theorem dX6_set_55 : decode cX6_set 55 = .ok (.aload_n 0, 1) := by decide +kernel
theorem dX6_set_56 : decode cX6_set 56 = .ok (.invokevirtual 141, 3) := by decide +kernel
theorem dX6_set_59 : decode cX6_set 59 = .ok (.aload_n 0, 1) := by decide +kernel
theorem dX6_set_60 : decode cX6_set 60 = .ok (.getfield 39, 3) := by decide +kernel
theorem dX6_set_63 : decode cX6_set 63 = .ok (.bipush 11, 2) := by decide +kernel
theorem dX6_set_65 : decode cX6_set 65 = .ok (.aload_n 0, 1) := by decide +kernel
theorem dX6_set_66 : decode cX6_set 66 = .ok (.getfield 97, 3) := by decide +kernel
theorem dX6_set_69 : decode cX6_set 69 = .ok (.imul, 1) := by decide +kernel
theorem dX6_set_70 : decode cX6_set 70 = .ok (.iload_n 1, 1) := by decide +kernel
theorem dX6_set_71 : decode cX6_set 71 = .ok (.iadd, 1) := by decide +kernel
theorem dX6_set_72 : decode cX6_set 72 = .ok (.iload_n 2, 1) := by decide +kernel
theorem dX6_set_73 : decode cX6_set 73 = .ok (.iastore, 1) := by decide +kernel
theorem dX6_set_74 : decode cX6_set 74 = .ok (.iload_n 3, 1) := by decide +kernel
theorem dX6_set_75 : decode cX6_set 75 = .ok (.ireturn, 1) := by decide +kernel
theorem dX6_crack_0 : decode cX6_crack 0 = .ok (.aload_n 0, 1) := by decide +kernel
theorem dX6_crack_1 : decode cX6_crack 1 = .ok (.iload_n 1, 1) := by decide +kernel
theorem dX6_crack_2 : decode cX6_crack 2 = .ok (.invokevirtual 128, 3) := by decide +kernel
theorem dX6_crack_5 : decode cX6_crack 5 = .ok (.ifCond .ne 5, 3) := by decide +kernel
theorem dX6_crack_8 : decode cX6_crack 8 = .ok (.iconst (-1), 1) := by decide +kernel
theorem dX6_crack_9 : decode cX6_crack 9 = .ok (.ireturn, 1) := by decide +kernel
theorem dX6_crack_10 : decode cX6_crack 10 = .ok (.aload_n 0, 1) := by decide +kernel
theorem dX6_crack_11 : decode cX6_crack 11 = .ok (.getfield 97, 3) := by decide +kernel
theorem dX6_crack_14 : decode cX6_crack 14 = .ok (.bipush 40, 2) := by decide +kernel
theorem dX6_crack_16 : decode cX6_crack 16 = .ok (.if_icmp .ne 6, 3) := by decide +kernel
theorem dX6_crack_19 : decode cX6_crack 19 = .ok (.bipush (-2), 2) := by decide +kernel
theorem dX6_crack_21 : decode cX6_crack 21 = .ok (.ireturn, 1) := by decide +kernel
theorem dX6_crack_22 : decode cX6_crack 22 = .ok (.aload_n 0, 1) := by decide +kernel
theorem dX6_crack_23 : decode cX6_crack 23 = .ok (.invokevirtual 141, 3) := by decide +kernel
theorem dX6_crack_26 : decode cX6_crack 26 = .ok (.aload_n 0, 1) := by decide +kernel
theorem dX6_crack_27 : decode cX6_crack 27 = .ok (.getfield 39, 3) := by decide +kernel
theorem dX6_crack_30 : decode cX6_crack 30 = .ok (.bipush 11, 2) := by decide +kernel
theorem dX6_crack_32 : decode cX6_crack 32 = .ok (.aload_n 0, 1) := by decide +kernel
theorem dX6_crack_33 : decode cX6_crack 33 = .ok (.getfield 97, 3) := by decide +kernel
theorem dX6_crack_36 : decode cX6_crack 36 = .ok (.imul, 1) := by decide +kernel
theorem dX6_crack_37 : decode cX6_crack 37 = .ok (.bipush 10, 2) := by decide +kernel
theorem dX6_crack_39 : decode cX6_crack 39 = .ok (.iadd, 1) := by decide +kernel
theorem dX6_crack_40 : decode cX6_crack 40 = .ok (.aload_n 0, 1) := by decide +kernel
theorem dX6_crack_41 : decode cX6_crack 41 = .ok (.bipush 10, 2) := by decide +kernel
theorem dX6_crack_43 : decode cX6_crack 43 = .ok (.invokevirtual 118, 3) := by decide +kernel
theorem dX6_crack_46 : decode cX6_crack 46 = .ok (.iload_n 1, 1) := by decide +kernel
theorem dX6_crack_47 : decode cX6_crack 47 = .ok (.invokestatic 148, 3) := by decide +kernel
theorem dX6_crack_50 : decode cX6_crack 50 = .ok (.iastore, 1) := by decide +kernel
theorem dX6_crack_51 : decode cX6_crack 51 = .ok (.aload_n 0, 1) := by decide +kernel
theorem dX6_crack_52 : decode cX6_crack 52 = .ok (.bipush 10, 2) := by decide +kernel
theorem dX6_crack_54 : decode cX6_crack 54 = .ok (.invokevirtual 118, 3) := by decide +kernel
theorem dX6_crack_57 : decode cX6_crack 57 = .ok (.iload_n 1, 1) := by decide +kernel
theorem dX6_crack_58 : decode cX6_crack 58 = .ok (.invokestatic 104, 3) := by decide +kernel
theorem dX6_crack_61 : decode cX6_crack 61 = .ok (.ifCond .eq 7, 3) := by decide +kernel
theorem dX6_crack_64 : decode cX6_crack 64 = .ok (.iconst 1, 1) := by decide +kernel
theorem dX6_crack_65 : decode cX6_crack 65 = .ok (.goto 4, 3) := by decide +kernel
theorem dX6_crack_68 : decode cX6_crack 68 = .ok (.iconst 0, 1) := by decide +kernel
theorem dX6_crack_69 : decode cX6_crack 69 = .ok (.ireturn, 1) := by decide +kernel
theorem dX6_flipped_0 : decode cX6_flipped 0 = .ok (.iload_n 0, 1) := by decide +kernel
theorem dX6_flipped_1 : decode cX6_flipped 1 = .ok (.iload_n 1, 1) := by decide +kernel
theorem dX6_flipped_2 : decode cX6_flipped 2 = .ok (.invokestatic 104, 3) := by decide +kernel
theorem dX6_flipped_5 : decode cX6_flipped 5 = .ok (.ifCond .eq 13, 3) := by decide +kernel
theorem dX6_flipped_8 : decode cX6_flipped 8 = .ok (.iload_n 0, 1) := by decide +kernel
theorem dX6_flipped_9 : decode cX6_flipped 9 = .ok (.iconst 1, 1) := by decide +kernel
theorem dX6_flipped_10 : decode cX6_flipped 10 = .ok (.iload_n 1, 1) := by decide +kernel
theorem dX6_flipped_11 : decode cX6_flipped 11 = .ok (.ishl, 1) := by decide +kernel
theorem dX6_flipped_12 : decode cX6_flipped 12 = .ok (.iconst (-1), 1) := by decide +kernel
theorem dX6_flipped_13 : decode cX6_flipped 13 = .ok (.ixor, 1) := by decide +kernel
theorem dX6_flipped_14 : decode cX6_flipped 14 = .ok (.iand, 1) := by decide +kernel
theorem dX6_flipped_15 : decode cX6_flipped 15 = .ok (.goto 8, 3) := by decide +kernel
theorem dX6_flipped_18 : decode cX6_flipped 18 = .ok (.iload_n 0, 1) := by decide +kernel
theorem dX6_flipped_19 : decode cX6_flipped 19 = .ok (.iconst 1, 1) := by decide +kernel
theorem dX6_flipped_20 : decode cX6_flipped 20 = .ok (.iload_n 1, 1) := by decide +kernel
theorem dX6_flipped_21 : decode cX6_flipped 21 = .ok (.ishl, 1) := by decide +kernel
theorem dX6_flipped_22 : decode cX6_flipped 22 = .ok (.ior, 1) := by decide +kernel
theorem dX6_flipped_23 : decode cX6_flipped 23 = .ok (.ireturn, 1) := by decide +kernel
theorem dX6_undo_0 : decode cX6_undo 0 = .ok (.iload_n 1, 1) := by decide +kernel
theorem dX6_undo_1 : decode cX6_undo 1 = .ok (.iconst 0, 1) := by decide +kernel
theorem dX6_undo_2 : decode cX6_undo 2 = .ok (.aload_n 0, 1) := by decide +kernel
theorem dX6_undo_3 : decode cX6_undo 3 = .ok (.getfield 97, 3) := by decide +kernel
theorem dX6_undo_6 : decode cX6_undo 6 = .ok (.invokestatic 64, 3) := by decide +kernel
theorem dX6_undo_9 : decode cX6_undo 9 = .ok (.ifCond .ne 5, 3) := by decide +kernel
theorem dX6_undo_12 : decode cX6_undo 12 = .ok (.iconst (-1), 1) := by decide +kernel
theorem dX6_undo_13 : decode cX6_undo 13 = .ok (.ireturn, 1) := by decide +kernel
theorem dX6_undo_14 : decode cX6_undo 14 = .ok (.aload_n 0, 1) := by decide +kernel
theorem dX6_undo_15 : decode cX6_undo 15 = .ok (.getfield 97, 3) := by decide +kernel
theorem dX6_undo_18 : decode cX6_undo 18 = .ok (.iload_n 1, 1) := by decide +kernel
theorem dX6_undo_19 : decode cX6_undo 19 = .ok (.isub, 1) := by decide +kernel
theorem dX6_undo_20 : decode cX6_undo 20 = .ok (.istore_n 2, 1) := by decide +kernel
theorem dX6_undo_21 : decode cX6_undo 21 = .ok (.aload_n 0, 1) := by decide +kernel
theorem dX6_undo_22 : decode cX6_undo 22 = .ok (.iload_n 1, 1) := by decide +kernel
theorem dX6_undo_23 : decode cX6_undo 23 = .ok (.putfield 97, 3) := by decide +kernel
theorem dX6_undo_26 : decode cX6_undo 26 = .ok (.iload_n 2, 1) := by decide +kernel
theorem dX6_undo_27 : decode cX6_undo 27 = .ok (.ireturn, 1) := by decide +kernel
theorem dX6_keep_0 : decode cX6_keep 0 = .ok (.iload_n 1, 1) := by decide +kernel
theorem dX6_keep_1 : decode cX6_keep 1 = .ok (.iconst 0, 1) := by decide +kernel
theorem dX6_keep_2 : decode cX6_keep 2 = .ok (.iconst 2, 1) := by decide +kernel
theorem dX6_keep_3 : decode cX6_keep 3 = .ok (.invokestatic 64, 3) := by decide +kernel
theorem dX6_keep_6 : decode cX6_keep 6 = .ok (.ifCond .ne 5, 3) := by decide +kernel
theorem dX6_keep_9 : decode cX6_keep 9 = .ok (.iconst (-1), 1) := by decide +kernel
theorem dX6_keep_10 : decode cX6_keep 10 = .ok (.ireturn, 1) := by decide +kernel
theorem dX6_keep_11 : decode cX6_keep 11 = .ok (.aload_n 0, 1) := by decide +kernel
theorem dX6_keep_12 : decode cX6_keep 12 = .ok (.getfield 94, 3) := by decide +kernel
theorem dX6_keep_15 : decode cX6_keep 15 = .ok (.ifCond .ne 6, 3) := by decide +kernel
theorem dX6_keep_18 : decode cX6_keep 18 = .ok (.bipush (-4), 2) := by decide +kernel
theorem dX6_keep_20 : decode cX6_keep 20 = .ok (.ireturn, 1) := by decide +kernel
theorem dX6_keep_21 : decode cX6_keep 21 = .ok (.iconst 0, 1) := by decide +kernel
theorem dX6_keep_22 : decode cX6_keep 22 = .ok (.istore_n 2, 1) := by decide +kernel
theorem dX6_keep_23 : decode cX6_keep 23 = .ok (.iload_n 2, 1) := by decide +kernel
theorem dX6_keep_24 : decode cX6_keep 24 = .ok (.sipush 451, 3) := by decide +kernel
theorem dX6_keep_27 : decode cX6_keep 27 = .ok (.if_icmp .ge 27, 3) := by decide +kernel
theorem dX6_keep_30 : decode cX6_keep 30 = .ok (.aload_n 0, 1) := by decide +kernel
theorem dX6_keep_31 : decode cX6_keep 31 = .ok (.getfield 42, 3) := by decide +kernel
theorem dX6_keep_34 : decode cX6_keep 34 = .ok (.sipush 451, 3) := by decide +kernel
theorem dX6_keep_37 : decode cX6_keep 37 = .ok (.iload_n 1, 1) := by decide +kernel
theorem dX6_keep_38 : decode cX6_keep 38 = .ok (.imul, 1) := by decide +kernel
theorem dX6_keep_39 : decode cX6_keep 39 = .ok (.iload_n 2, 1) := by decide +kernel
theorem dX6_keep_40 : decode cX6_keep 40 = .ok (.iadd, 1) := by decide +kernel
theorem dX6_keep_41 : decode cX6_keep 41 = .ok (.aload_n 0, 1) := by decide +kernel
theorem dX6_keep_42 : decode cX6_keep 42 = .ok (.getfield 39, 3) := by decide +kernel
theorem dX6_keep_45 : decode cX6_keep 45 = .ok (.iload_n 2, 1) := by decide +kernel
theorem dX6_keep_46 : decode cX6_keep 46 = .ok (.iaload, 1) := by decide +kernel
theorem dX6_keep_47 : decode cX6_keep 47 = .ok (.iastore, 1) := by decide +kernel
theorem dX6_keep_48 : decode cX6_keep 48 = .ok (.iinc 2 1, 3) := by decide +kernel
theorem dX6_keep_51 : decode cX6_keep 51 = .ok (.goto (-28), 3) := by decide +kernel
theorem dX6_keep_54 : decode cX6_keep 54 = .ok (.aload_n 0, 1) := by decide +kernel
theorem dX6_keep_55 : decode cX6_keep 55 = .ok (.getfield 45, 3) := by decide +kernel
theorem dX6_keep_58 : decode cX6_keep 58 = .ok (.iload_n 1, 1) := by decide +kernel
theorem dX6_keep_59 : decode cX6_keep 59 = .ok (.aload_n 0, 1) := by decide +kernel
theorem dX6_keep_60 : decode cX6_keep 60 = .ok (.getfield 97, 3) := by decide +kernel
theorem dX6_keep_63 : decode cX6_keep 63 = .ok (.iastore, 1) := by decide +kernel
theorem dX6_keep_64 : decode cX6_keep 64 = .ok (.aload_n 0, 1) := by decide +kernel
theorem dX6_keep_65 : decode cX6_keep 65 = .ok (.getfield 97, 3) := by decide +kernel
theorem dX6_keep_68 : decode cX6_keep 68 = .ok (.ireturn, 1) := by decide +kernel
theorem dX6_on_0 : decode cX6_on 0 = .ok (.iload_n 1, 1) := by decide +kernel
theorem dX6_on_1 : decode cX6_on 1 = .ok (.iconst 0, 1) := by decide +kernel
theorem dX6_on_2 : decode cX6_on 2 = .ok (.iconst 2, 1) := by decide +kernel
theorem dX6_on_3 : decode cX6_on 3 = .ok (.invokestatic 64, 3) := by decide +kernel
theorem dX6_on_6 : decode cX6_on 6 = .ok (.ifCond .ne 5, 3) := by decide +kernel
theorem dX6_on_9 : decode cX6_on 9 = .ok (.iconst (-1), 1) := by decide +kernel
theorem dX6_on_10 : decode cX6_on 10 = .ok (.ireturn, 1) := by decide +kernel
theorem dX6_on_11 : decode cX6_on 11 = .ok (.aload_n 0, 1) := by decide +kernel
theorem dX6_on_12 : decode cX6_on 12 = .ok (.getfield 45, 3) := by decide +kernel
theorem dX6_on_15 : decode cX6_on 15 = .ok (.iload_n 1, 1) := by decide +kernel
theorem dX6_on_16 : decode cX6_on 16 = .ok (.iaload, 1) := by decide +kernel
theorem dX6_on_17 : decode cX6_on 17 = .ok (.ifCond .ge 9, 3) := by decide +kernel
theorem dX6_on_20 : decode cX6_on 20 = .ok (.aload_n 0, 1) := by decide +kernel
theorem dX6_on_21 : decode cX6_on 21 = .ok (.iconst 1, 1) := by decide +kernel
theorem dX6_on_22 : decode cX6_on 22 = .ok (.invokevirtual 72, 3) := by decide +kernel
theorem dX6_on_25 : decode cX6_on 25 = .ok (.ireturn, 1) := by decide +kernel
theorem dX6_on_26 : decode cX6_on 26 = .ok (.iconst 0, 1) := by decide +kernel
theorem dX6_on_27 : decode cX6_on 27 = .ok (.istore_n 2, 1) := by decide +kernel
theorem dX6_on_28 : decode cX6_on 28 = .ok (.iload_n 2, 1) := by decide +kernel
theorem dX6_on_29 : decode cX6_on 29 = .ok (.sipush 451, 3) := by decide +kernel
theorem dX6_on_32 : decode cX6_on 32 = .ok (.if_icmp .ge 27, 3) := by decide +kernel
theorem dX6_on_35 : decode cX6_on 35 = .ok (.aload_n 0, 1) := by decide +kernel
theorem dX6_on_36 : decode cX6_on 36 = .ok (.getfield 39, 3) := by decide +kernel
theorem dX6_on_39 : decode cX6_on 39 = .ok (.iload_n 2, 1) := by decide +kernel
theorem dX6_on_40 : decode cX6_on 40 = .ok (.aload_n 0, 1) := by decide +kernel
theorem dX6_on_41 : decode cX6_on 41 = .ok (.getfield 42, 3) := by decide +kernel
theorem dX6_on_44 : decode cX6_on 44 = .ok (.sipush 451, 3) := by decide +kernel
theorem dX6_on_47 : decode cX6_on 47 = .ok (.iload_n 1, 1) := by decide +kernel
theorem dX6_on_48 : decode cX6_on 48 = .ok (.imul, 1) := by decide +kernel
theorem dX6_on_49 : decode cX6_on 49 = .ok (.iload_n 2, 1) := by decide +kernel
theorem dX6_on_50 : decode cX6_on 50 = .ok (.iadd, 1) := by decide +kernel
theorem dX6_on_51 : decode cX6_on 51 = .ok (.iaload, 1) := by decide +kernel
theorem dX6_on_52 : decode cX6_on 52 = .ok (.iastore, 1) := by decide +kernel
theorem dX6_on_53 : decode cX6_on 53 = .ok (.iinc 2 1, 3) := by decide +kernel
theorem dX6_on_56 : decode cX6_on 56 = .ok (.goto (-28), 3) := by decide +kernel
theorem dX6_on_59 : decode cX6_on 59 = .ok (.aload_n 0, 1) := by decide +kernel
theorem dX6_on_60 : decode cX6_on 60 = .ok (.aload_n 0, 1) := by decide +kernel
theorem dX6_on_61 : decode cX6_on 61 = .ok (.getfield 45, 3) := by decide +kernel
theorem dX6_on_64 : decode cX6_on 64 = .ok (.iload_n 1, 1) := by decide +kernel
theorem dX6_on_65 : decode cX6_on 65 = .ok (.iaload, 1) := by decide +kernel
theorem dX6_on_66 : decode cX6_on 66 = .ok (.putfield 97, 3) := by decide +kernel
theorem dX6_on_69 : decode cX6_on 69 = .ok (.aload_n 0, 1) := by decide +kernel
theorem dX6_on_70 : decode cX6_on 70 = .ok (.getfield 97, 3) := by decide +kernel
theorem dX6_on_73 : decode cX6_on 73 = .ok (.ireturn, 1) := by decide +kernel
theorem dX6_touched_0 : decode cX6_touched 0 = .ok (.aload_n 0, 1) := by decide +kernel
theorem dX6_touched_1 : decode cX6_touched 1 = .ok (.iload_n 1, 1) := by decide +kernel
theorem dX6_touched_2 : decode cX6_touched 2 = .ok (.invokevirtual 128, 3) := by decide +kernel
theorem dX6_touched_5 : decode cX6_touched 5 = .ok (.ifCond .eq 43, 3) := by decide +kernel
theorem dX6_touched_8 : decode cX6_touched 8 = .ok (.iload_n 2, 1) := by decide +kernel
theorem dX6_touched_9 : decode cX6_touched 9 = .ok (.iconst 0, 1) := by decide +kernel
theorem dX6_touched_10 : decode cX6_touched 10 = .ok (.aload_n 0, 1) := by decide +kernel
theorem dX6_touched_11 : decode cX6_touched 11 = .ok (.getfield 33, 3) := by decide +kernel
theorem dX6_touched_14 : decode cX6_touched 14 = .ok (.iload_n 1, 1) := by decide +kernel
theorem dX6_touched_15 : decode cX6_touched 15 = .ok (.iaload, 1) := by decide +kernel
theorem dX6_touched_16 : decode cX6_touched 16 = .ok (.invokestatic 88, 3) := by decide +kernel
theorem dX6_touched_19 : decode cX6_touched 19 = .ok (.iconst 1, 1) := by decide +kernel
theorem dX6_touched_20 : decode cX6_touched 20 = .ok (.isub, 1) := by decide +kernel
theorem dX6_touched_21 : decode cX6_touched 21 = .ok (.invokestatic 64, 3) := by decide +kernel
theorem dX6_touched_24 : decode cX6_touched 24 = .ok (.ifCond .eq 24, 3) := by decide +kernel
theorem dX6_touched_27 : decode cX6_touched 27 = .ok (.iload_n 3, 1) := by decide +kernel
theorem dX6_touched_28 : decode cX6_touched 28 = .ok (.iconst 0, 1) := by decide +kernel
theorem dX6_touched_29 : decode cX6_touched 29 = .ok (.iconst 1, 1) := by decide +kernel
theorem dX6_touched_30 : decode cX6_touched 30 = .ok (.invokestatic 64, 3) := by decide +kernel
theorem dX6_touched_33 : decode cX6_touched 33 = .ok (.ifCond .eq 15, 3) := by decide +kernel
theorem dX6_touched_36 : decode cX6_touched 36 = .ok (.iload 4, 2) := by decide +kernel
theorem dX6_touched_38 : decode cX6_touched 38 = .ok (.iconst 0, 1) := by decide +kernel
theorem dX6_touched_39 : decode cX6_touched 39 = .ok (.sipush 999, 3) := by decide +kernel
theorem dX6_touched_42 : decode cX6_touched 42 = .ok (.invokestatic 64, 3) := by decide +kernel
theorem dX6_touched_45 : decode cX6_touched 45 = .ok (.ifCond .ne 5, 3) := by decide +kernel
theorem dX6_touched_48 : decode cX6_touched 48 = .ok (.iconst (-1), 1) := by decide +kernel
theorem dX6_touched_49 : decode cX6_touched 49 = .ok (.ireturn, 1) := by decide +kernel
theorem dX6_touched_50 : decode cX6_touched 50 = .ok (.aload_n 0, 1) := by decide +kernel
theorem dX6_touched_51 : decode cX6_touched 51 = .ok (.getfield 33, 3) := by decide +kernel
theorem dX6_touched_54 : decode cX6_touched 54 = .ok (.iload_n 1, 1) := by decide +kernel
theorem dX6_touched_55 : decode cX6_touched 55 = .ok (.iaload, 1) := by decide +kernel
theorem dX6_touched_56 : decode cX6_touched 56 = .ok (.iload_n 2, 1) := by decide +kernel
theorem dX6_touched_57 : decode cX6_touched 57 = .ok (.iload_n 3, 1) := by decide +kernel
theorem dX6_touched_58 : decode cX6_touched 58 = .ok (.iconst 1, 1) := by decide +kernel
theorem dX6_touched_59 : decode cX6_touched 59 = .ok (.if_icmp .ne 7, 3) := by decide +kernel
theorem dX6_touched_62 : decode cX6_touched 62 = .ok (.iconst 1, 1) := by decide +kernel
theorem dX6_touched_63 : decode cX6_touched 63 = .ok (.goto 4, 3) := by decide +kernel
theorem dX6_touched_66 : decode cX6_touched 66 = .ok (.iconst 0, 1) := by decide +kernel
theorem dX6_touched_67 : decode cX6_touched 67 = .ok (.iload 4, 2) := by decide +kernel
theorem dX6_touched_69 : decode cX6_touched 69 = .ok (.invokestatic 114, 3) := by decide +kernel
theorem dX6_touched_72 : decode cX6_touched 72 = .ok (.ireturn, 1) := by decide +kernel
theorem dX6_shows_0 : decode cX6_shows 0 = .ok (.aload_n 0, 1) := by decide +kernel
theorem dX6_shows_1 : decode cX6_shows 1 = .ok (.getfield 94, 3) := by decide +kernel
theorem dX6_shows_4 : decode cX6_shows 4 = .ok (.ifCond .ne 6, 3) := by decide +kernel
theorem dX6_shows_7 : decode cX6_shows 7 = .ok (.bipush (-4), 2) := by decide +kernel
theorem dX6_shows_9 : decode cX6_shows 9 = .ok (.ireturn, 1) := by decide +kernel
theorem dX6_shows_10 : decode cX6_shows 10 = .ok (.iload_n 1, 1) := by decide +kernel
theorem dX6_shows_11 : decode cX6_shows 11 = .ok (.invokestatic 68, 3) := by decide +kernel
theorem dX6_shows_14 : decode cX6_shows 14 = .ok (.ifCond .ne 5, 3) := by decide +kernel
theorem dX6_shows_17 : decode cX6_shows 17 = .ok (.iconst (-1), 1) := by decide +kernel
theorem dX6_shows_18 : decode cX6_shows 18 = .ok (.ireturn, 1) := by decide +kernel
theorem dX6_shows_19 : decode cX6_shows 19 = .ok (.aload_n 0, 1) := by decide +kernel
theorem dX6_shows_20 : decode cX6_shows 20 = .ok (.getfield 17, 3) := by decide +kernel
theorem dX6_shows_23 : decode cX6_shows 23 = .ok (.iload_n 1, 1) := by decide +kernel
theorem dX6_shows_24 : decode cX6_shows 24 = .ok (.iaload, 1) := by decide +kernel
theorem dX6_shows_25 : decode cX6_shows 25 = .ok (.ifCond .ge 9, 3) := by decide +kernel
theorem dX6_shows_28 : decode cX6_shows 28 = .ok (.aload_n 0, 1) := by decide +kernel
theorem dX6_shows_29 : decode cX6_shows 29 = .ok (.iconst 1, 1) := by decide +kernel
theorem dX6_shows_30 : decode cX6_shows 30 = .ok (.invokevirtual 72, 3) := by decide +kernel
theorem dX6_shows_33 : decode cX6_shows 33 = .ok (.ireturn, 1) := by decide +kernel
theorem dX6_shows_34 : decode cX6_shows 34 = .ok (.aload_n 0, 1) := by decide +kernel
theorem dX6_shows_35 : decode cX6_shows 35 = .ok (.getfield 17, 3) := by decide +kernel
theorem dX6_shows_38 : decode cX6_shows 38 = .ok (.iload_n 1, 1) := by decide +kernel
theorem dX6_shows_39 : decode cX6_shows 39 = .ok (.iaload, 1) := by decide +kernel
theorem dX6_shows_40 : decode cX6_shows 40 = .ok (.bipush 20, 2) := by decide +kernel
theorem dX6_shows_42 : decode cX6_shows 42 = .ok (.if_icmp .le 9, 3) := by decide +kernel
theorem dX6_shows_45 : decode cX6_shows 45 = .ok (.aload_n 0, 1) := by decide +kernel
theorem dX6_shows_46 : decode cX6_shows 46 = .ok (.iconst 5, 1) := by decide +kernel
theorem dX6_shows_47 : decode cX6_shows 47 = .ok (.invokevirtual 72, 3) := by decide +kernel
theorem dX6_shows_50 : decode cX6_shows 50 = .ok (.ireturn, 1) := by decide +kernel
theorem dX6_shows_51 : decode cX6_shows 51 = .ok (.iconst 1, 1) := by decide +kernel
theorem dX6_shows_52 : decode cX6_shows 52 = .ok (.istore_n 2, 1) := by decide +kernel
theorem dX6_shows_53 : decode cX6_shows 53 = .ok (.iconst 0, 1) := by decide +kernel
theorem dX6_shows_54 : decode cX6_shows 54 = .ok (.istore_n 3, 1) := by decide +kernel
theorem dX6_shows_55 : decode cX6_shows 55 = .ok (.iload_n 3, 1) := by decide +kernel
theorem dX6_shows_56 : decode cX6_shows 56 = .ok (.aload_n 0, 1) := by decide +kernel
theorem dX6_shows_57 : decode cX6_shows 57 = .ok (.getfield 17, 3) := by decide +kernel
theorem dX6_shows_60 : decode cX6_shows 60 = .ok (.iload_n 1, 1) := by decide +kernel
theorem dX6_shows_61 : decode cX6_shows 61 = .ok (.iaload, 1) := by decide +kernel
theorem dX6_shows_62 : decode cX6_shows 62 = .ok (.if_icmp .ge 36, 3) := by decide +kernel
theorem dX6_shows_65 : decode cX6_shows 65 = .ok (.iload_n 2, 1) := by decide +kernel
theorem dX6_shows_66 : decode cX6_shows 66 = .ok (.ifCond .eq 24, 3) := by decide +kernel
theorem dX6_shows_69 : decode cX6_shows 69 = .ok (.aload_n 0, 1) := by decide +kernel
theorem dX6_shows_70 : decode cX6_shows 70 = .ok (.getfield 20, 3) := by decide +kernel
theorem dX6_shows_73 : decode cX6_shows 73 = .ok (.bipush 40, 2) := by decide +kernel
theorem dX6_shows_75 : decode cX6_shows 75 = .ok (.iload_n 1, 1) := by decide +kernel
theorem dX6_shows_76 : decode cX6_shows 76 = .ok (.imul, 1) := by decide +kernel
theorem dX6_shows_77 : decode cX6_shows 77 = .ok (.iload_n 3, 1) := by decide +kernel
theorem dX6_shows_78 : decode cX6_shows 78 = .ok (.iadd, 1) := by decide +kernel
theorem dX6_shows_79 : decode cX6_shows 79 = .ok (.iaload, 1) := by decide +kernel
theorem dX6_shows_80 : decode cX6_shows 80 = .ok (.invokestatic 138, 3) := by decide +kernel
theorem dX6_shows_83 : decode cX6_shows 83 = .ok (.ifCond .eq 7, 3) := by decide +kernel
theorem dX6_shows_86 : decode cX6_shows 86 = .ok (.iconst 1, 1) := by decide +kernel
theorem dX6_shows_87 : decode cX6_shows 87 = .ok (.goto 4, 3) := by decide +kernel
theorem dX6_shows_90 : decode cX6_shows 90 = .ok (.iconst 0, 1) := by decide +kernel
theorem dX6_shows_91 : decode cX6_shows 91 = .ok (.istore_n 2, 1) := by decide +kernel
theorem dX6_shows_92 : decode cX6_shows 92 = .ok (.iinc 3 1, 3) := by decide +kernel
theorem dX6_shows_95 : decode cX6_shows 95 = .ok (.goto (-40), 3) := by decide +kernel
theorem dX6_shows_98 : decode cX6_shows 98 = .ok (.iload_n 2, 1) := by decide +kernel
theorem dX6_shows_99 : decode cX6_shows 99 = .ok (.ifCond .ne 9, 3) := by decide +kernel
theorem dX6_shows_102 : decode cX6_shows 102 = .ok (.aload_n 0, 1) := by decide +kernel
theorem dX6_shows_103 : decode cX6_shows 103 = .ok (.iconst 3, 1) := by decide +kernel
theorem dX6_shows_104 : decode cX6_shows 104 = .ok (.invokevirtual 72, 3) := by decide +kernel
theorem dX6_shows_107 : decode cX6_shows 107 = .ok (.ireturn, 1) := by decide +kernel
theorem dX6_shows_108 : decode cX6_shows 108 = .ok (.aload_n 0, 1) := by decide +kernel
theorem dX6_shows_109 : decode cX6_shows 109 = .ok (.invokevirtual 151, 3) := by decide +kernel
theorem dX6_shows_112 : decode cX6_shows 112 = .ok (.iconst 0, 1) := by decide +kernel
theorem dX6_shows_113 : decode cX6_shows 113 = .ok (.istore_n 3, 1) := by decide +kernel
theorem dX6_shows_114 : decode cX6_shows 114 = .ok (.iload_n 3, 1) := by decide +kernel
theorem dX6_shows_115 : decode cX6_shows 115 = .ok (.aload_n 0, 1) := by decide +kernel
theorem dX6_shows_116 : decode cX6_shows 116 = .ok (.getfield 17, 3) := by decide +kernel
theorem dX6_shows_119 : decode cX6_shows 119 = .ok (.iload_n 1, 1) := by decide +kernel
theorem dX6_shows_120 : decode cX6_shows 120 = .ok (.iaload, 1) := by decide +kernel
theorem dX6_shows_121 : decode cX6_shows 121 = .ok (.if_icmp .ge 30, 3) := by decide +kernel
theorem dX6_shows_124 : decode cX6_shows 124 = .ok (.aload_n 0, 1) := by decide +kernel
theorem dX6_shows_125 : decode cX6_shows 125 = .ok (.aload_n 0, 1) := by decide +kernel
theorem dX6_shows_126 : decode cX6_shows 126 = .ok (.getfield 48, 3) := by decide +kernel
theorem dX6_shows_129 : decode cX6_shows 129 = .ok (.iconst 0, 1) := by decide +kernel
theorem dX6_shows_130 : decode cX6_shows 130 = .ok (.aload_n 0, 1) := by decide +kernel
theorem dX6_shows_131 : decode cX6_shows 131 = .ok (.getfield 20, 3) := by decide +kernel
theorem dX6_shows_134 : decode cX6_shows 134 = .ok (.bipush 40, 2) := by decide +kernel
theorem dX6_shows_136 : decode cX6_shows 136 = .ok (.iload_n 1, 1) := by decide +kernel
theorem dX6_shows_137 : decode cX6_shows 137 = .ok (.imul, 1) := by decide +kernel
theorem dX6_shows_138 : decode cX6_shows 138 = .ok (.iload_n 3, 1) := by decide +kernel
theorem dX6_shows_139 : decode cX6_shows 139 = .ok (.iadd, 1) := by decide +kernel
theorem dX6_shows_140 : decode cX6_shows 140 = .ok (.iaload, 1) := by decide +kernel
theorem dX6_shows_141 : decode cX6_shows 141 = .ok (.iconst 0, 1) := by decide +kernel
theorem dX6_shows_142 : decode cX6_shows 142 = .ok (.invokevirtual 144, 3) := by decide +kernel
theorem dX6_shows_145 : decode cX6_shows 145 = .ok (.iinc 3 1, 3) := by decide +kernel
theorem dX6_shows_148 : decode cX6_shows 148 = .ok (.goto (-34), 3) := by decide +kernel
theorem dX6_shows_151 : decode cX6_shows 151 = .ok (.aload_n 0, 1) := by decide +kernel
theorem dX6_shows_152 : decode cX6_shows 152 = .ok (.aload_n 0, 1) := by decide +kernel
theorem dX6_shows_153 : decode cX6_shows 153 = .ok (.getfield 48, 3) := by decide +kernel
theorem dX6_shows_156 : decode cX6_shows 156 = .ok (.iconst 0, 1) := by decide +kernel
theorem dX6_shows_157 : decode cX6_shows 157 = .ok (.invokevirtual 110, 3) := by decide +kernel
theorem dX6_shows_160 : decode cX6_shows 160 = .ok (.ireturn, 1) := by decide +kernel
theorem dX6_shownBehind_0 : decode cX6_shownBehind 0 = .ok (.aload_n 0, 1) := by decide +kernel
theorem dX6_shownBehind_1 : decode cX6_shownBehind 1 = .ok (.invokevirtual 151, 3) := by decide +kernel
theorem dX6_shownBehind_4 : decode cX6_shownBehind 4 = .ok (.aload_n 0, 1) := by decide +kernel
theorem dX6_shownBehind_5 : decode cX6_shownBehind 5 = .ok (.aload_n 0, 1) := by decide +kernel
theorem dX6_shownBehind_6 : decode cX6_shownBehind 6 = .ok (.getfield 48, 3) := by decide +kernel
theorem dX6_shownBehind_9 : decode cX6_shownBehind 9 = .ok (.iconst 0, 1) := by decide +kernel
theorem dX6_shownBehind_10 : decode cX6_shownBehind 10 = .ok (.iload_n 1, 1) := by decide +kernel
theorem dX6_shownBehind_11 : decode cX6_shownBehind 11 = .ok (.iconst 0, 1) := by decide +kernel
theorem dX6_shownBehind_12 : decode cX6_shownBehind 12 = .ok (.invokevirtual 144, 3) := by decide +kernel
theorem dX6_shownBehind_15 : decode cX6_shownBehind 15 = .ok (.aload_n 0, 1) := by decide +kernel
theorem dX6_shownBehind_16 : decode cX6_shownBehind 16 = .ok (.aload_n 0, 1) := by decide +kernel
theorem dX6_shownBehind_17 : decode cX6_shownBehind 17 = .ok (.getfield 48, 3) := by decide +kernel
theorem dX6_shownBehind_20 : decode cX6_shownBehind 20 = .ok (.iconst 0, 1) := by decide +kernel
theorem dX6_shownBehind_21 : decode cX6_shownBehind 21 = .ok (.invokevirtual 110, 3) := by decide +kernel
theorem dX6_shownBehind_24 : decode cX6_shownBehind 24 = .ok (.ireturn, 1) := by decide +kernel
theorem dX6_most_0 : decode cX6_most 0 = .ok (.aload_n 0, 1) := by decide +kernel
theorem dX6_most_1 : decode cX6_most 1 = .ok (.getfield 94, 3) := by decide +kernel
theorem dX6_most_4 : decode cX6_most 4 = .ok (.ifCond .ne 6, 3) := by decide +kernel
theorem dX6_most_7 : decode cX6_most 7 = .ok (.bipush (-4), 2) := by decide +kernel
theorem dX6_most_9 : decode cX6_most 9 = .ok (.ireturn, 1) := by decide +kernel
theorem dX6_most_10 : decode cX6_most 10 = .ok (.bipush (-9), 2) := by decide +kernel
theorem dX6_most_12 : decode cX6_most 12 = .ok (.istore_n 1, 1) := by decide +kernel
theorem dX6_most_13 : decode cX6_most 13 = .ok (.bipush (-9), 2) := by decide +kernel
theorem dX6_most_15 : decode cX6_most 15 = .ok (.istore_n 2, 1) := by decide +kernel
theorem dX6_most_16 : decode cX6_most 16 = .ok (.iconst 0, 1) := by decide +kernel
theorem dX6_most_17 : decode cX6_most 17 = .ok (.istore_n 3, 1) := by decide +kernel
theorem dX6_most_18 : decode cX6_most 18 = .ok (.iload_n 3, 1) := by decide +kernel
theorem dX6_most_19 : decode cX6_most 19 = .ok (.bipush 9, 2) := by decide +kernel
theorem dX6_most_21 : decode cX6_most 21 = .ok (.if_icmp .ge 44, 3) := by decide +kernel
theorem dX6_most_24 : decode cX6_most 24 = .ok (.aload_n 0, 1) := by decide +kernel
theorem dX6_most_25 : decode cX6_most 25 = .ok (.iload_n 3, 1) := by decide +kernel
theorem dX6_most_26 : decode cX6_most 26 = .ok (.invokevirtual 154, 3) := by decide +kernel
theorem dX6_most_29 : decode cX6_most 29 = .ok (.invokestatic 135, 3) := by decide +kernel
theorem dX6_most_32 : decode cX6_most 32 = .ok (.istore 4, 2) := by decide +kernel
theorem dX6_most_34 : decode cX6_most 34 = .ok (.iload 4, 2) := by decide +kernel
theorem dX6_most_36 : decode cX6_most 36 = .ok (.iload_n 2, 1) := by decide +kernel
theorem dX6_most_37 : decode cX6_most 37 = .ok (.if_icmp .le 7, 3) := by decide +kernel
theorem dX6_most_40 : decode cX6_most 40 = .ok (.iload_n 3, 1) := by decide +kernel
theorem dX6_most_41 : decode cX6_most 41 = .ok (.goto 4, 3) := by decide +kernel
theorem dX6_most_44 : decode cX6_most 44 = .ok (.iload_n 1, 1) := by decide +kernel
theorem dX6_most_45 : decode cX6_most 45 = .ok (.istore_n 1, 1) := by decide +kernel
theorem dX6_most_46 : decode cX6_most 46 = .ok (.iload 4, 2) := by decide +kernel
theorem dX6_most_48 : decode cX6_most 48 = .ok (.iload_n 2, 1) := by decide +kernel
theorem dX6_most_49 : decode cX6_most 49 = .ok (.if_icmp .le 8, 3) := by decide +kernel
theorem dX6_most_52 : decode cX6_most 52 = .ok (.iload 4, 2) := by decide +kernel
theorem dX6_most_54 : decode cX6_most 54 = .ok (.goto 4, 3) := by decide +kernel
theorem dX6_most_57 : decode cX6_most 57 = .ok (.iload_n 2, 1) := by decide +kernel
theorem dX6_most_58 : decode cX6_most 58 = .ok (.istore_n 2, 1) := by decide +kernel
theorem dX6_most_59 : decode cX6_most 59 = .ok (.iinc 3 1, 3) := by decide +kernel
theorem dX6_most_62 : decode cX6_most 62 = .ok (.goto (-44), 3) := by decide +kernel
theorem dX6_most_65 : decode cX6_most 65 = .ok (.aload_n 0, 1) := by decide +kernel
theorem dX6_most_66 : decode cX6_most 66 = .ok (.iload_n 2, 1) := by decide +kernel
theorem dX6_most_67 : decode cX6_most 67 = .ok (.invokevirtual 76, 3) := by decide +kernel
theorem dX6_most_70 : decode cX6_most 70 = .ok (.pop, 1) := by decide +kernel
theorem dX6_most_71 : decode cX6_most 71 = .ok (.iload_n 1, 1) := by decide +kernel
theorem dX6_most_72 : decode cX6_most 72 = .ok (.ireturn, 1) := by decide +kernel
theorem dX6_shownByCode_0 : decode cX6_shownByCode 0 = .ok (.aload_n 0, 1) := by decide +kernel
theorem dX6_shownByCode_1 : decode cX6_shownByCode 1 = .ok (.invokevirtual 151, 3) := by decide +kernel
theorem dX6_shownByCode_4 : decode cX6_shownByCode 4 = .ok (.iconst 1, 1) := by decide +kernel
theorem dX6_shownByCode_5 : decode cX6_shownByCode 5 = .ok (.istore_n 3, 1) := by decide +kernel
theorem dX6_shownByCode_6 : decode cX6_shownByCode 6 = .ok (.iconst 1, 1) := by decide +kernel
theorem dX6_shownByCode_7 : decode cX6_shownByCode 7 = .ok (.istore 4, 2) := by decide +kernel
theorem dX6_shownByCode_9 : decode cX6_shownByCode 9 = .ok (.iload 4, 2) := by decide +kernel
theorem dX6_shownByCode_11 : decode cX6_shownByCode 11 = .ok (.iload_n 2, 1) := by decide +kernel
theorem dX6_shownByCode_12 : decode cX6_shownByCode 12 = .ok (.if_icmp .ge 14, 3) := by decide +kernel
theorem dX6_shownByCode_15 : decode cX6_shownByCode 15 = .ok (.iload_n 3, 1) := by decide +kernel
theorem dX6_shownByCode_16 : decode cX6_shownByCode 16 = .ok (.bipush 9, 2) := by decide +kernel
theorem dX6_shownByCode_18 : decode cX6_shownByCode 18 = .ok (.imul, 1) := by decide +kernel
theorem dX6_shownByCode_19 : decode cX6_shownByCode 19 = .ok (.istore_n 3, 1) := by decide +kernel
theorem dX6_shownByCode_20 : decode cX6_shownByCode 20 = .ok (.iinc 4 1, 3) := by decide +kernel
theorem dX6_shownByCode_23 : decode cX6_shownByCode 23 = .ok (.goto (-14), 3) := by decide +kernel
theorem dX6_shownByCode_26 : decode cX6_shownByCode 26 = .ok (.iconst 0, 1) := by decide +kernel
theorem dX6_shownByCode_27 : decode cX6_shownByCode 27 = .ok (.istore 4, 2) := by decide +kernel
theorem dX6_shownByCode_29 : decode cX6_shownByCode 29 = .ok (.iload 4, 2) := by decide +kernel
theorem dX6_shownByCode_31 : decode cX6_shownByCode 31 = .ok (.iload_n 2, 1) := by decide +kernel
theorem dX6_shownByCode_32 : decode cX6_shownByCode 32 = .ok (.if_icmp .ge 30, 3) := by decide +kernel
theorem dX6_shownByCode_35 : decode cX6_shownByCode 35 = .ok (.aload_n 0, 1) := by decide +kernel
theorem dX6_shownByCode_36 : decode cX6_shownByCode 36 = .ok (.aload_n 0, 1) := by decide +kernel
theorem dX6_shownByCode_37 : decode cX6_shownByCode 37 = .ok (.getfield 48, 3) := by decide +kernel
theorem dX6_shownByCode_40 : decode cX6_shownByCode 40 = .ok (.iconst 0, 1) := by decide +kernel
theorem dX6_shownByCode_41 : decode cX6_shownByCode 41 = .ok (.iload_n 1, 1) := by decide +kernel
theorem dX6_shownByCode_42 : decode cX6_shownByCode 42 = .ok (.iload_n 3, 1) := by decide +kernel
theorem dX6_shownByCode_43 : decode cX6_shownByCode 43 = .ok (.idiv, 1) := by decide +kernel
theorem dX6_shownByCode_44 : decode cX6_shownByCode 44 = .ok (.bipush 9, 2) := by decide +kernel
theorem dX6_shownByCode_46 : decode cX6_shownByCode 46 = .ok (.irem, 1) := by decide +kernel
theorem dX6_shownByCode_47 : decode cX6_shownByCode 47 = .ok (.iconst 0, 1) := by decide +kernel
theorem dX6_shownByCode_48 : decode cX6_shownByCode 48 = .ok (.invokevirtual 144, 3) := by decide +kernel
theorem dX6_shownByCode_51 : decode cX6_shownByCode 51 = .ok (.iload_n 3, 1) := by decide +kernel
theorem dX6_shownByCode_52 : decode cX6_shownByCode 52 = .ok (.bipush 9, 2) := by decide +kernel
theorem dX6_shownByCode_54 : decode cX6_shownByCode 54 = .ok (.idiv, 1) := by decide +kernel
theorem dX6_shownByCode_55 : decode cX6_shownByCode 55 = .ok (.istore_n 3, 1) := by decide +kernel
theorem dX6_shownByCode_56 : decode cX6_shownByCode 56 = .ok (.iinc 4 1, 3) := by decide +kernel
theorem dX6_shownByCode_59 : decode cX6_shownByCode 59 = .ok (.goto (-30), 3) := by decide +kernel
theorem dX6_shownByCode_62 : decode cX6_shownByCode 62 = .ok (.aload_n 0, 1) := by decide +kernel
theorem dX6_shownByCode_63 : decode cX6_shownByCode 63 = .ok (.aload_n 0, 1) := by decide +kernel
theorem dX6_shownByCode_64 : decode cX6_shownByCode 64 = .ok (.getfield 48, 3) := by decide +kernel
theorem dX6_shownByCode_67 : decode cX6_shownByCode 67 = .ok (.iconst 0, 1) := by decide +kernel
theorem dX6_shownByCode_68 : decode cX6_shownByCode 68 = .ok (.invokevirtual 110, 3) := by decide +kernel
theorem dX6_shownByCode_71 : decode cX6_shownByCode 71 = .ok (.ireturn, 1) := by decide +kernel
theorem dX6_fewest_0 : decode cX6_fewest 0 = .ok (.aload_n 0, 1) := by decide +kernel
theorem dX6_fewest_1 : decode cX6_fewest 1 = .ok (.getfield 94, 3) := by decide +kernel
theorem dX6_fewest_4 : decode cX6_fewest 4 = .ok (.ifCond .ne 6, 3) := by decide +kernel
theorem dX6_fewest_7 : decode cX6_fewest 7 = .ok (.bipush (-4), 2) := by decide +kernel
theorem dX6_fewest_9 : decode cX6_fewest 9 = .ok (.ireturn, 1) := by decide +kernel
theorem dX6_fewest_10 : decode cX6_fewest 10 = .ok (.iload_n 1, 1) := by decide +kernel
theorem dX6_fewest_11 : decode cX6_fewest 11 = .ok (.invokestatic 157, 3) := by decide +kernel
theorem dX6_fewest_14 : decode cX6_fewest 14 = .ok (.ifCond .eq 10, 3) := by decide +kernel
theorem dX6_fewest_17 : decode cX6_fewest 17 = .ok (.iload_n 2, 1) := by decide +kernel
theorem dX6_fewest_18 : decode cX6_fewest 18 = .ok (.invokestatic 68, 3) := by decide +kernel
theorem dX6_fewest_21 : decode cX6_fewest 21 = .ok (.ifCond .ne 5, 3) := by decide +kernel
theorem dX6_fewest_24 : decode cX6_fewest 24 = .ok (.iconst (-1), 1) := by decide +kernel
theorem dX6_fewest_25 : decode cX6_fewest 25 = .ok (.ireturn, 1) := by decide +kernel
theorem dX6_fewest_26 : decode cX6_fewest 26 = .ok (.iconst 1, 1) := by decide +kernel
theorem dX6_fewest_27 : decode cX6_fewest 27 = .ok (.istore_n 3, 1) := by decide +kernel
theorem dX6_fewest_28 : decode cX6_fewest 28 = .ok (.iconst 0, 1) := by decide +kernel
theorem dX6_fewest_29 : decode cX6_fewest 29 = .ok (.istore 4, 2) := by decide +kernel
theorem dX6_fewest_31 : decode cX6_fewest 31 = .ok (.iload 4, 2) := by decide +kernel
theorem dX6_fewest_33 : decode cX6_fewest 33 = .ok (.iconst 4, 1) := by decide +kernel
theorem dX6_fewest_34 : decode cX6_fewest 34 = .ok (.if_icmp .gt 97, 3) := by decide +kernel
theorem dX6_fewest_37 : decode cX6_fewest 37 = .ok (.iconst 0, 1) := by decide +kernel
theorem dX6_fewest_38 : decode cX6_fewest 38 = .ok (.istore 5, 2) := by decide +kernel
theorem dX6_fewest_40 : decode cX6_fewest 40 = .ok (.iload 5, 2) := by decide +kernel
theorem dX6_fewest_42 : decode cX6_fewest 42 = .ok (.iload_n 3, 1) := by decide +kernel
theorem dX6_fewest_43 : decode cX6_fewest 43 = .ok (.if_icmp .ge 77, 3) := by decide +kernel
theorem dX6_fewest_46 : decode cX6_fewest 46 = .ok (.aload_n 0, 1) := by decide +kernel
theorem dX6_fewest_47 : decode cX6_fewest 47 = .ok (.iload 5, 2) := by decide +kernel
theorem dX6_fewest_49 : decode cX6_fewest 49 = .ok (.iload 4, 2) := by decide +kernel
theorem dX6_fewest_51 : decode cX6_fewest 51 = .ok (.invokevirtual 160, 3) := by decide +kernel
theorem dX6_fewest_54 : decode cX6_fewest 54 = .ok (.iload_n 1, 1) := by decide +kernel
theorem dX6_fewest_55 : decode cX6_fewest 55 = .ok (.if_icmp .ne 59, 3) := by decide +kernel
theorem dX6_fewest_58 : decode cX6_fewest 58 = .ok (.aload_n 0, 1) := by decide +kernel
theorem dX6_fewest_59 : decode cX6_fewest 59 = .ok (.iload_n 2, 1) := by decide +kernel
theorem dX6_fewest_60 : decode cX6_fewest 60 = .ok (.iload 4, 2) := by decide +kernel
theorem dX6_fewest_62 : decode cX6_fewest 62 = .ok (.invokevirtual 163, 3) := by decide +kernel
theorem dX6_fewest_65 : decode cX6_fewest 65 = .ok (.pop, 1) := by decide +kernel
theorem dX6_fewest_66 : decode cX6_fewest 66 = .ok (.iload 5, 2) := by decide +kernel
theorem dX6_fewest_68 : decode cX6_fewest 68 = .ok (.istore 6, 2) := by decide +kernel
theorem dX6_fewest_70 : decode cX6_fewest 70 = .ok (.iload 4, 2) := by decide +kernel
theorem dX6_fewest_72 : decode cX6_fewest 72 = .ok (.iconst 1, 1) := by decide +kernel
theorem dX6_fewest_73 : decode cX6_fewest 73 = .ok (.isub, 1) := by decide +kernel
theorem dX6_fewest_74 : decode cX6_fewest 74 = .ok (.istore 7, 2) := by decide +kernel
theorem dX6_fewest_76 : decode cX6_fewest 76 = .ok (.iload 7, 2) := by decide +kernel
theorem dX6_fewest_78 : decode cX6_fewest 78 = .ok (.ifCond .lt 33, 3) := by decide +kernel
theorem dX6_fewest_81 : decode cX6_fewest 81 = .ok (.aload_n 0, 1) := by decide +kernel
theorem dX6_fewest_82 : decode cX6_fewest 82 = .ok (.getfield 20, 3) := by decide +kernel
theorem dX6_fewest_85 : decode cX6_fewest 85 = .ok (.bipush 40, 2) := by decide +kernel
theorem dX6_fewest_87 : decode cX6_fewest 87 = .ok (.iload_n 2, 1) := by decide +kernel
theorem dX6_fewest_88 : decode cX6_fewest 88 = .ok (.imul, 1) := by decide +kernel
theorem dX6_fewest_89 : decode cX6_fewest 89 = .ok (.iload 7, 2) := by decide +kernel
theorem dX6_fewest_91 : decode cX6_fewest 91 = .ok (.iadd, 1) := by decide +kernel
theorem dX6_fewest_92 : decode cX6_fewest 92 = .ok (.iload 6, 2) := by decide +kernel
theorem dX6_fewest_94 : decode cX6_fewest 94 = .ok (.bipush 9, 2) := by decide +kernel
theorem dX6_fewest_96 : decode cX6_fewest 96 = .ok (.irem, 1) := by decide +kernel
theorem dX6_fewest_97 : decode cX6_fewest 97 = .ok (.iastore, 1) := by decide +kernel
theorem dX6_fewest_98 : decode cX6_fewest 98 = .ok (.iload 6, 2) := by decide +kernel
theorem dX6_fewest_100 : decode cX6_fewest 100 = .ok (.bipush 9, 2) := by decide +kernel
theorem dX6_fewest_102 : decode cX6_fewest 102 = .ok (.idiv, 1) := by decide +kernel
theorem dX6_fewest_103 : decode cX6_fewest 103 = .ok (.istore 6, 2) := by decide +kernel
theorem dX6_fewest_105 : decode cX6_fewest 105 = .ok (.iinc 7 (-1), 3) := by decide +kernel
theorem dX6_fewest_108 : decode cX6_fewest 108 = .ok (.goto (-32), 3) := by decide +kernel
theorem dX6_fewest_111 : decode cX6_fewest 111 = .ok (.iload 4, 2) := by decide +kernel
theorem dX6_fewest_113 : decode cX6_fewest 113 = .ok (.ireturn, 1) := by decide +kernel
theorem dX6_fewest_114 : decode cX6_fewest 114 = .ok (.iinc 5 1, 3) := by decide +kernel
theorem dX6_fewest_117 : decode cX6_fewest 117 = .ok (.goto (-77), 3) := by decide +kernel
theorem dX6_fewest_120 : decode cX6_fewest 120 = .ok (.iload_n 3, 1) := by decide +kernel
theorem dX6_fewest_121 : decode cX6_fewest 121 = .ok (.bipush 9, 2) := by decide +kernel
theorem dX6_fewest_123 : decode cX6_fewest 123 = .ok (.imul, 1) := by decide +kernel
theorem dX6_fewest_124 : decode cX6_fewest 124 = .ok (.istore_n 3, 1) := by decide +kernel
theorem dX6_fewest_125 : decode cX6_fewest 125 = .ok (.iinc 4 1, 3) := by decide +kernel
theorem dX6_fewest_128 : decode cX6_fewest 128 = .ok (.goto (-97), 3) := by decide +kernel
theorem dX6_fewest_131 : decode cX6_fewest 131 = .ok (.bipush (-9), 2) := by decide +kernel
theorem dX6_fewest_133 : decode cX6_fewest 133 = .ok (.ireturn, 1) := by decide +kernel
theorem dX6_isBy_0 : decode cX6_isBy 0 = .ok (.aload_n 0, 1) := by decide +kernel
theorem dX6_isBy_1 : decode cX6_isBy 1 = .ok (.invokevirtual 151, 3) := by decide +kernel
theorem dX6_isBy_4 : decode cX6_isBy 4 = .ok (.iconst 0, 1) := by decide +kernel
theorem dX6_isBy_5 : decode cX6_isBy 5 = .ok (.istore_n 3, 1) := by decide +kernel
theorem dX6_isBy_6 : decode cX6_isBy 6 = .ok (.iload_n 3, 1) := by decide +kernel
theorem dX6_isBy_7 : decode cX6_isBy 7 = .ok (.bipush 9, 2) := by decide +kernel
theorem dX6_isBy_9 : decode cX6_isBy 9 = .ok (.if_icmp .ge 28, 3) := by decide +kernel
theorem dX6_isBy_12 : decode cX6_isBy 12 = .ok (.iload_n 1, 1) := by decide +kernel
theorem dX6_isBy_13 : decode cX6_isBy 13 = .ok (.iload_n 3, 1) := by decide +kernel
theorem dX6_isBy_14 : decode cX6_isBy 14 = .ok (.invokestatic 104, 3) := by decide +kernel
theorem dX6_isBy_17 : decode cX6_isBy 17 = .ok (.ifCond .eq 14, 3) := by decide +kernel
theorem dX6_isBy_20 : decode cX6_isBy 20 = .ok (.aload_n 0, 1) := by decide +kernel
theorem dX6_isBy_21 : decode cX6_isBy 21 = .ok (.aload_n 0, 1) := by decide +kernel
theorem dX6_isBy_22 : decode cX6_isBy 22 = .ok (.getfield 48, 3) := by decide +kernel
theorem dX6_isBy_25 : decode cX6_isBy 25 = .ok (.iconst 0, 1) := by decide +kernel
theorem dX6_isBy_26 : decode cX6_isBy 26 = .ok (.iload_n 3, 1) := by decide +kernel
theorem dX6_isBy_27 : decode cX6_isBy 27 = .ok (.iconst 0, 1) := by decide +kernel
theorem dX6_isBy_28 : decode cX6_isBy 28 = .ok (.invokevirtual 144, 3) := by decide +kernel
theorem dX6_isBy_31 : decode cX6_isBy 31 = .ok (.iinc 3 1, 3) := by decide +kernel
theorem dX6_isBy_34 : decode cX6_isBy 34 = .ok (.goto (-28), 3) := by decide +kernel
theorem dX6_isBy_37 : decode cX6_isBy 37 = .ok (.aload_n 0, 1) := by decide +kernel
theorem dX6_isBy_38 : decode cX6_isBy 38 = .ok (.aload_n 0, 1) := by decide +kernel
theorem dX6_isBy_39 : decode cX6_isBy 39 = .ok (.getfield 48, 3) := by decide +kernel
theorem dX6_isBy_42 : decode cX6_isBy 42 = .ok (.iconst 0, 1) := by decide +kernel
theorem dX6_isBy_43 : decode cX6_isBy 43 = .ok (.invokevirtual 110, 3) := by decide +kernel
theorem dX6_isBy_46 : decode cX6_isBy 46 = .ok (.iload_n 2, 1) := by decide +kernel
theorem dX6_isBy_47 : decode cX6_isBy 47 = .ok (.if_icmp .ne 7, 3) := by decide +kernel
theorem dX6_isBy_50 : decode cX6_isBy 50 = .ok (.iconst 1, 1) := by decide +kernel
theorem dX6_isBy_51 : decode cX6_isBy 51 = .ok (.goto 4, 3) := by decide +kernel
theorem dX6_isBy_54 : decode cX6_isBy 54 = .ok (.iconst 0, 1) := by decide +kernel
theorem dX6_isBy_55 : decode cX6_isBy 55 = .ok (.ireturn, 1) := by decide +kernel
theorem dX6_ways_0 : decode cX6_ways 0 = .ok (.aload_n 0, 1) := by decide +kernel
theorem dX6_ways_1 : decode cX6_ways 1 = .ok (.getfield 94, 3) := by decide +kernel
theorem dX6_ways_4 : decode cX6_ways 4 = .ok (.ifCond .ne 6, 3) := by decide +kernel
theorem dX6_ways_7 : decode cX6_ways 7 = .ok (.bipush (-4), 2) := by decide +kernel
theorem dX6_ways_9 : decode cX6_ways 9 = .ok (.ireturn, 1) := by decide +kernel
theorem dX6_ways_10 : decode cX6_ways 10 = .ok (.iload_n 1, 1) := by decide +kernel
theorem dX6_ways_11 : decode cX6_ways 11 = .ok (.invokestatic 157, 3) := by decide +kernel
theorem dX6_ways_14 : decode cX6_ways 14 = .ok (.ifCond .ne 5, 3) := by decide +kernel
theorem dX6_ways_17 : decode cX6_ways 17 = .ok (.iconst (-1), 1) := by decide +kernel
theorem dX6_ways_18 : decode cX6_ways 18 = .ok (.ireturn, 1) := by decide +kernel
theorem dX6_ways_19 : decode cX6_ways 19 = .ok (.iconst 0, 1) := by decide +kernel
theorem dX6_ways_20 : decode cX6_ways 20 = .ok (.istore_n 2, 1) := by decide +kernel
theorem dX6_ways_21 : decode cX6_ways 21 = .ok (.bipush (-9), 2) := by decide +kernel
theorem dX6_ways_23 : decode cX6_ways 23 = .ok (.istore_n 3, 1) := by decide +kernel
theorem dX6_ways_24 : decode cX6_ways 24 = .ok (.sipush 511, 3) := by decide +kernel
theorem dX6_ways_27 : decode cX6_ways 27 = .ok (.istore 4, 2) := by decide +kernel
theorem dX6_ways_29 : decode cX6_ways 29 = .ok (.iload 4, 2) := by decide +kernel
theorem dX6_ways_31 : decode cX6_ways 31 = .ok (.ifCond .lt 25, 3) := by decide +kernel
theorem dX6_ways_34 : decode cX6_ways 34 = .ok (.aload_n 0, 1) := by decide +kernel
theorem dX6_ways_35 : decode cX6_ways 35 = .ok (.iload 4, 2) := by decide +kernel
theorem dX6_ways_37 : decode cX6_ways 37 = .ok (.iload_n 1, 1) := by decide +kernel
theorem dX6_ways_38 : decode cX6_ways 38 = .ok (.invokevirtual 166, 3) := by decide +kernel
theorem dX6_ways_41 : decode cX6_ways 41 = .ok (.ifCond .eq 9, 3) := by decide +kernel
theorem dX6_ways_44 : decode cX6_ways 44 = .ok (.iload 4, 2) := by decide +kernel
theorem dX6_ways_46 : decode cX6_ways 46 = .ok (.istore_n 3, 1) := by decide +kernel
theorem dX6_ways_47 : decode cX6_ways 47 = .ok (.iinc 2 1, 3) := by decide +kernel
theorem dX6_ways_50 : decode cX6_ways 50 = .ok (.iinc 4 (-1), 3) := by decide +kernel
theorem dX6_ways_53 : decode cX6_ways 53 = .ok (.goto (-24), 3) := by decide +kernel
theorem dX6_ways_56 : decode cX6_ways 56 = .ok (.aload_n 0, 1) := by decide +kernel
theorem dX6_ways_57 : decode cX6_ways 57 = .ok (.iload_n 2, 1) := by decide +kernel
theorem dX6_ways_58 : decode cX6_ways 58 = .ok (.i2l, 1) := by decide +kernel
theorem dX6_ways_59 : decode cX6_ways 59 = .ok (.putfield 61, 3) := by decide +kernel
theorem dX6_ways_62 : decode cX6_ways 62 = .ok (.aload_n 0, 1) := by decide +kernel
theorem dX6_ways_63 : decode cX6_ways 63 = .ok (.lconst 1, 1) := by decide +kernel
theorem dX6_ways_64 : decode cX6_ways 64 = .ok (.putfield 13, 3) := by decide +kernel
theorem dX6_ways_67 : decode cX6_ways 67 = .ok (.aload_n 0, 1) := by decide +kernel
theorem dX6_ways_68 : decode cX6_ways 68 = .ok (.iload_n 3, 1) := by decide +kernel
theorem dX6_ways_69 : decode cX6_ways 69 = .ok (.invokevirtual 76, 3) := by decide +kernel
theorem dX6_ways_72 : decode cX6_ways 72 = .ok (.ireturn, 1) := by decide +kernel
theorem dX6_sure_0 : decode cX6_sure 0 = .ok (.aload_n 0, 1) := by decide +kernel
theorem dX6_sure_1 : decode cX6_sure 1 = .ok (.getfield 94, 3) := by decide +kernel
theorem dX6_sure_4 : decode cX6_sure 4 = .ok (.ifCond .ne 6, 3) := by decide +kernel
theorem dX6_sure_7 : decode cX6_sure 7 = .ok (.bipush (-4), 2) := by decide +kernel
theorem dX6_sure_9 : decode cX6_sure 9 = .ok (.ireturn, 1) := by decide +kernel
theorem dX6_sure_10 : decode cX6_sure 10 = .ok (.iload_n 1, 1) := by decide +kernel
theorem dX6_sure_11 : decode cX6_sure 11 = .ok (.invokestatic 157, 3) := by decide +kernel
theorem dX6_sure_14 : decode cX6_sure 14 = .ok (.ifCond .ne 5, 3) := by decide +kernel
theorem dX6_sure_17 : decode cX6_sure 17 = .ok (.iconst (-1), 1) := by decide +kernel
theorem dX6_sure_18 : decode cX6_sure 18 = .ok (.ireturn, 1) := by decide +kernel
theorem dX6_sure_19 : decode cX6_sure 19 = .ok (.sipush 511, 3) := by decide +kernel
theorem dX6_sure_22 : decode cX6_sure 22 = .ok (.istore_n 2, 1) := by decide +kernel
theorem dX6_sure_23 : decode cX6_sure 23 = .ok (.iconst 0, 1) := by decide +kernel
theorem dX6_sure_24 : decode cX6_sure 24 = .ok (.istore_n 3, 1) := by decide +kernel
theorem dX6_sure_25 : decode cX6_sure 25 = .ok (.iconst 0, 1) := by decide +kernel
theorem dX6_sure_26 : decode cX6_sure 26 = .ok (.istore 4, 2) := by decide +kernel
theorem dX6_sure_28 : decode cX6_sure 28 = .ok (.iconst 0, 1) := by decide +kernel
theorem dX6_sure_29 : decode cX6_sure 29 = .ok (.istore 5, 2) := by decide +kernel
theorem dX6_sure_31 : decode cX6_sure 31 = .ok (.iload 5, 2) := by decide +kernel
theorem dX6_sure_33 : decode cX6_sure 33 = .ok (.sipush 512, 3) := by decide +kernel
theorem dX6_sure_36 : decode cX6_sure 36 = .ok (.if_icmp .ge 32, 3) := by decide +kernel
theorem dX6_sure_39 : decode cX6_sure 39 = .ok (.aload_n 0, 1) := by decide +kernel
theorem dX6_sure_40 : decode cX6_sure 40 = .ok (.iload 5, 2) := by decide +kernel
theorem dX6_sure_42 : decode cX6_sure 42 = .ok (.iload_n 1, 1) := by decide +kernel
theorem dX6_sure_43 : decode cX6_sure 43 = .ok (.invokevirtual 166, 3) := by decide +kernel
theorem dX6_sure_46 : decode cX6_sure 46 = .ok (.ifCond .eq 16, 3) := by decide +kernel
theorem dX6_sure_49 : decode cX6_sure 49 = .ok (.iload_n 2, 1) := by decide +kernel
theorem dX6_sure_50 : decode cX6_sure 50 = .ok (.iload 5, 2) := by decide +kernel
theorem dX6_sure_52 : decode cX6_sure 52 = .ok (.iand, 1) := by decide +kernel
theorem dX6_sure_53 : decode cX6_sure 53 = .ok (.istore_n 2, 1) := by decide +kernel
theorem dX6_sure_54 : decode cX6_sure 54 = .ok (.iload_n 3, 1) := by decide +kernel
theorem dX6_sure_55 : decode cX6_sure 55 = .ok (.iload 5, 2) := by decide +kernel
theorem dX6_sure_57 : decode cX6_sure 57 = .ok (.ior, 1) := by decide +kernel
theorem dX6_sure_58 : decode cX6_sure 58 = .ok (.istore_n 3, 1) := by decide +kernel
theorem dX6_sure_59 : decode cX6_sure 59 = .ok (.iconst 1, 1) := by decide +kernel
theorem dX6_sure_60 : decode cX6_sure 60 = .ok (.istore 4, 2) := by decide +kernel
theorem dX6_sure_62 : decode cX6_sure 62 = .ok (.iinc 5 1, 3) := by decide +kernel
theorem dX6_sure_65 : decode cX6_sure 65 = .ok (.goto (-34), 3) := by decide +kernel
theorem dX6_sure_68 : decode cX6_sure 68 = .ok (.iload 4, 2) := by decide +kernel
theorem dX6_sure_70 : decode cX6_sure 70 = .ok (.ifCond .ne 9, 3) := by decide +kernel
theorem dX6_sure_73 : decode cX6_sure 73 = .ok (.aload_n 0, 1) := by decide +kernel
theorem dX6_sure_74 : decode cX6_sure 74 = .ok (.iconst 4, 1) := by decide +kernel
theorem dX6_sure_75 : decode cX6_sure 75 = .ok (.invokevirtual 72, 3) := by decide +kernel
theorem dX6_sure_78 : decode cX6_sure 78 = .ok (.ireturn, 1) := by decide +kernel
theorem dX6_sure_79 : decode cX6_sure 79 = .ok (.aload_n 0, 1) := by decide +kernel
theorem dX6_sure_80 : decode cX6_sure 80 = .ok (.sipush 511, 3) := by decide +kernel
theorem dX6_sure_83 : decode cX6_sure 83 = .ok (.iload_n 3, 1) := by decide +kernel
theorem dX6_sure_84 : decode cX6_sure 84 = .ok (.iconst (-1), 1) := by decide +kernel
theorem dX6_sure_85 : decode cX6_sure 85 = .ok (.ixor, 1) := by decide +kernel
theorem dX6_sure_86 : decode cX6_sure 86 = .ok (.iand, 1) := by decide +kernel
theorem dX6_sure_87 : decode cX6_sure 87 = .ok (.invokevirtual 76, 3) := by decide +kernel
theorem dX6_sure_90 : decode cX6_sure 90 = .ok (.pop, 1) := by decide +kernel
theorem dX6_sure_91 : decode cX6_sure 91 = .ok (.iload_n 2, 1) := by decide +kernel
theorem dX6_sure_92 : decode cX6_sure 92 = .ok (.ireturn, 1) := by decide +kernel
theorem dX6_which_0 : decode cX6_which 0 = .ok (.aload_n 0, 1) := by decide +kernel
theorem dX6_which_1 : decode cX6_which 1 = .ok (.getfield 94, 3) := by decide +kernel
theorem dX6_which_4 : decode cX6_which 4 = .ok (.ifCond .ne 6, 3) := by decide +kernel
theorem dX6_which_7 : decode cX6_which 7 = .ok (.bipush (-4), 2) := by decide +kernel
theorem dX6_which_9 : decode cX6_which 9 = .ok (.ireturn, 1) := by decide +kernel
theorem dX6_which_10 : decode cX6_which 10 = .ok (.iload_n 1, 1) := by decide +kernel
theorem dX6_which_11 : decode cX6_which 11 = .ok (.invokestatic 157, 3) := by decide +kernel
theorem dX6_which_14 : decode cX6_which 14 = .ok (.ifCond .ne 5, 3) := by decide +kernel
theorem dX6_which_17 : decode cX6_which 17 = .ok (.iconst (-1), 1) := by decide +kernel
theorem dX6_which_18 : decode cX6_which 18 = .ok (.ireturn, 1) := by decide +kernel
theorem dX6_which_19 : decode cX6_which 19 = .ok (.iconst 0, 1) := by decide +kernel
theorem dX6_which_20 : decode cX6_which 20 = .ok (.istore_n 2, 1) := by decide +kernel
theorem dX6_which_21 : decode cX6_which 21 = .ok (.iconst 0, 1) := by decide +kernel
theorem dX6_which_22 : decode cX6_which 22 = .ok (.istore_n 3, 1) := by decide +kernel
theorem dX6_which_23 : decode cX6_which 23 = .ok (.iload_n 3, 1) := by decide +kernel
theorem dX6_which_24 : decode cX6_which 24 = .ok (.bipush 9, 2) := by decide +kernel
theorem dX6_which_26 : decode cX6_which 26 = .ok (.if_icmp .ge 28, 3) := by decide +kernel
theorem dX6_which_29 : decode cX6_which 29 = .ok (.iload_n 2, 1) := by decide +kernel
theorem dX6_which_30 : decode cX6_which 30 = .ok (.aload_n 0, 1) := by decide +kernel
theorem dX6_which_31 : decode cX6_which 31 = .ok (.iload_n 3, 1) := by decide +kernel
theorem dX6_which_32 : decode cX6_which 32 = .ok (.invokevirtual 154, 3) := by decide +kernel
theorem dX6_which_35 : decode cX6_which 35 = .ok (.iload_n 1, 1) := by decide +kernel
theorem dX6_which_36 : decode cX6_which 36 = .ok (.if_icmp .ne 9, 3) := by decide +kernel
theorem dX6_which_39 : decode cX6_which 39 = .ok (.iconst 1, 1) := by decide +kernel
theorem dX6_which_40 : decode cX6_which 40 = .ok (.iload_n 3, 1) := by decide +kernel
theorem dX6_which_41 : decode cX6_which 41 = .ok (.ishl, 1) := by decide +kernel
theorem dX6_which_42 : decode cX6_which 42 = .ok (.goto 4, 3) := by decide +kernel
theorem dX6_which_45 : decode cX6_which 45 = .ok (.iconst 0, 1) := by decide +kernel
theorem dX6_which_46 : decode cX6_which 46 = .ok (.ior, 1) := by decide +kernel
theorem dX6_which_47 : decode cX6_which 47 = .ok (.istore_n 2, 1) := by decide +kernel
theorem dX6_which_48 : decode cX6_which 48 = .ok (.iinc 3 1, 3) := by decide +kernel
theorem dX6_which_51 : decode cX6_which 51 = .ok (.goto (-28), 3) := by decide +kernel
theorem dX6_which_54 : decode cX6_which 54 = .ok (.iload_n 2, 1) := by decide +kernel
theorem dX6_which_55 : decode cX6_which 55 = .ok (.ireturn, 1) := by decide +kernel
theorem dX6_wouldShow_0 : decode cX6_wouldShow 0 = .ok (.aload_n 0, 1) := by decide +kernel
theorem dX6_wouldShow_1 : decode cX6_wouldShow 1 = .ok (.iload_n 1, 1) := by decide +kernel
theorem dX6_wouldShow_2 : decode cX6_wouldShow 2 = .ok (.invokevirtual 118, 3) := by decide +kernel
theorem dX6_wouldShow_5 : decode cX6_wouldShow 5 = .ok (.istore 4, 2) := by decide +kernel
theorem dX6_wouldShow_7 : decode cX6_wouldShow 7 = .ok (.iload_n 3, 1) := by decide +kernel
theorem dX6_wouldShow_8 : decode cX6_wouldShow 8 = .ok (.iload_n 1, 1) := by decide +kernel
theorem dX6_wouldShow_9 : decode cX6_wouldShow 9 = .ok (.invokestatic 100, 3) := by decide +kernel
theorem dX6_wouldShow_12 : decode cX6_wouldShow 12 = .ok (.ifCond .eq 28, 3) := by decide +kernel
theorem dX6_wouldShow_15 : decode cX6_wouldShow 15 = .ok (.iload_n 2, 1) := by decide +kernel
theorem dX6_wouldShow_16 : decode cX6_wouldShow 16 = .ok (.iload 4, 2) := by decide +kernel
theorem dX6_wouldShow_18 : decode cX6_wouldShow 18 = .ok (.iload_n 3, 1) := by decide +kernel
theorem dX6_wouldShow_19 : decode cX6_wouldShow 19 = .ok (.iload_n 1, 1) := by decide +kernel
theorem dX6_wouldShow_20 : decode cX6_wouldShow 20 = .ok (.if_icmp .ne 7, 3) := by decide +kernel
theorem dX6_wouldShow_23 : decode cX6_wouldShow 23 = .ok (.iconst 1, 1) := by decide +kernel
theorem dX6_wouldShow_24 : decode cX6_wouldShow 24 = .ok (.goto 4, 3) := by decide +kernel
theorem dX6_wouldShow_27 : decode cX6_wouldShow 27 = .ok (.iconst 0, 1) := by decide +kernel
theorem dX6_wouldShow_28 : decode cX6_wouldShow 28 = .ok (.aload_n 0, 1) := by decide +kernel
theorem dX6_wouldShow_29 : decode cX6_wouldShow 29 = .ok (.bipush 9, 2) := by decide +kernel
theorem dX6_wouldShow_31 : decode cX6_wouldShow 31 = .ok (.invokevirtual 118, 3) := by decide +kernel
theorem dX6_wouldShow_34 : decode cX6_wouldShow 34 = .ok (.invokestatic 114, 3) := by decide +kernel
theorem dX6_wouldShow_37 : decode cX6_wouldShow 37 = .ok (.goto 5, 3) := by decide +kernel
theorem dX6_wouldShow_40 : decode cX6_wouldShow 40 = .ok (.iload 4, 2) := by decide +kernel
theorem dX6_wouldShow_42 : decode cX6_wouldShow 42 = .ok (.istore 5, 2) := by decide +kernel
theorem dX6_wouldShow_44 : decode cX6_wouldShow 44 = .ok (.aload_n 0, 1) := by decide +kernel
theorem dX6_wouldShow_45 : decode cX6_wouldShow 45 = .ok (.bipush 10, 2) := by decide +kernel
theorem dX6_wouldShow_47 : decode cX6_wouldShow 47 = .ok (.invokevirtual 118, 3) := by decide +kernel
theorem dX6_wouldShow_50 : decode cX6_wouldShow 50 = .ok (.iload_n 1, 1) := by decide +kernel
theorem dX6_wouldShow_51 : decode cX6_wouldShow 51 = .ok (.invokestatic 104, 3) := by decide +kernel
theorem dX6_wouldShow_54 : decode cX6_wouldShow 54 = .ok (.ifCond .ne 16, 3) := by decide +kernel
theorem dX6_wouldShow_57 : decode cX6_wouldShow 57 = .ok (.iload_n 2, 1) := by decide +kernel
theorem dX6_wouldShow_58 : decode cX6_wouldShow 58 = .ok (.iload 5, 2) := by decide +kernel
theorem dX6_wouldShow_60 : decode cX6_wouldShow 60 = .ok (.invokestatic 107, 3) := by decide +kernel
theorem dX6_wouldShow_63 : decode cX6_wouldShow 63 = .ok (.ifCond .eq 7, 3) := by decide +kernel
theorem dX6_wouldShow_66 : decode cX6_wouldShow 66 = .ok (.iconst 1, 1) := by decide +kernel
theorem dX6_wouldShow_67 : decode cX6_wouldShow 67 = .ok (.goto 4, 3) := by decide +kernel
theorem dX6_wouldShow_70 : decode cX6_wouldShow 70 = .ok (.iconst 0, 1) := by decide +kernel
theorem dX6_wouldShow_71 : decode cX6_wouldShow 71 = .ok (.ireturn, 1) := by decide +kernel
theorem dX6_pairs_0 : decode cX6_pairs 0 = .ok (.aload_n 0, 1) := by decide +kernel
theorem dX6_pairs_1 : decode cX6_pairs 1 = .ok (.getfield 17, 3) := by decide +kernel
theorem dX6_pairs_4 : decode cX6_pairs 4 = .ok (.iload_n 1, 1) := by decide +kernel
theorem dX6_pairs_5 : decode cX6_pairs 5 = .ok (.iaload, 1) := by decide +kernel
theorem dX6_pairs_6 : decode cX6_pairs 6 = .ok (.ifCond .ge 9, 3) := by decide +kernel
theorem dX6_pairs_9 : decode cX6_pairs 9 = .ok (.aload_n 0, 1) := by decide +kernel
theorem dX6_pairs_10 : decode cX6_pairs 10 = .ok (.iconst 1, 1) := by decide +kernel
theorem dX6_pairs_11 : decode cX6_pairs 11 = .ok (.invokevirtual 72, 3) := by decide +kernel
theorem dX6_pairs_14 : decode cX6_pairs 14 = .ok (.ireturn, 1) := by decide +kernel
theorem dX6_pairs_15 : decode cX6_pairs 15 = .ok (.aload_n 0, 1) := by decide +kernel
theorem dX6_pairs_16 : decode cX6_pairs 16 = .ok (.getfield 17, 3) := by decide +kernel
theorem dX6_pairs_19 : decode cX6_pairs 19 = .ok (.iload_n 1, 1) := by decide +kernel
theorem dX6_pairs_20 : decode cX6_pairs 20 = .ok (.iaload, 1) := by decide +kernel
theorem dX6_pairs_21 : decode cX6_pairs 21 = .ok (.iconst 2, 1) := by decide +kernel
theorem dX6_pairs_22 : decode cX6_pairs 22 = .ok (.irem, 1) := by decide +kernel
theorem dX6_pairs_23 : decode cX6_pairs 23 = .ok (.iconst 1, 1) := by decide +kernel
theorem dX6_pairs_24 : decode cX6_pairs 24 = .ok (.if_icmp .eq 14, 3) := by decide +kernel
theorem dX6_pairs_27 : decode cX6_pairs 27 = .ok (.aload_n 0, 1) := by decide +kernel
theorem dX6_pairs_28 : decode cX6_pairs 28 = .ok (.getfield 17, 3) := by decide +kernel
theorem dX6_pairs_31 : decode cX6_pairs 31 = .ok (.iload_n 1, 1) := by decide +kernel
theorem dX6_pairs_32 : decode cX6_pairs 32 = .ok (.iaload, 1) := by decide +kernel
theorem dX6_pairs_33 : decode cX6_pairs 33 = .ok (.bipush 16, 2) := by decide +kernel
theorem dX6_pairs_35 : decode cX6_pairs 35 = .ok (.if_icmp .le 9, 3) := by decide +kernel
theorem dX6_pairs_38 : decode cX6_pairs 38 = .ok (.aload_n 0, 1) := by decide +kernel
theorem dX6_pairs_39 : decode cX6_pairs 39 = .ok (.iconst 5, 1) := by decide +kernel
theorem dX6_pairs_40 : decode cX6_pairs 40 = .ok (.invokevirtual 72, 3) := by decide +kernel
theorem dX6_pairs_43 : decode cX6_pairs 43 = .ok (.ireturn, 1) := by decide +kernel
theorem dX6_pairs_44 : decode cX6_pairs 44 = .ok (.iconst 1, 1) := by decide +kernel
theorem dX6_pairs_45 : decode cX6_pairs 45 = .ok (.istore_n 2, 1) := by decide +kernel
theorem dX6_pairs_46 : decode cX6_pairs 46 = .ok (.iconst 0, 1) := by decide +kernel
theorem dX6_pairs_47 : decode cX6_pairs 47 = .ok (.istore_n 3, 1) := by decide +kernel
theorem dX6_pairs_48 : decode cX6_pairs 48 = .ok (.iload_n 3, 1) := by decide +kernel
theorem dX6_pairs_49 : decode cX6_pairs 49 = .ok (.aload_n 0, 1) := by decide +kernel
theorem dX6_pairs_50 : decode cX6_pairs 50 = .ok (.getfield 17, 3) := by decide +kernel
theorem dX6_pairs_53 : decode cX6_pairs 53 = .ok (.iload_n 1, 1) := by decide +kernel
theorem dX6_pairs_54 : decode cX6_pairs 54 = .ok (.iaload, 1) := by decide +kernel
theorem dX6_pairs_55 : decode cX6_pairs 55 = .ok (.if_icmp .ge 57, 3) := by decide +kernel
theorem dX6_pairs_58 : decode cX6_pairs 58 = .ok (.iload_n 2, 1) := by decide +kernel
theorem dX6_pairs_59 : decode cX6_pairs 59 = .ok (.ifCond .eq 45, 3) := by decide +kernel
theorem dX6_pairs_62 : decode cX6_pairs 62 = .ok (.aload_n 0, 1) := by decide +kernel
theorem dX6_pairs_63 : decode cX6_pairs 63 = .ok (.getfield 20, 3) := by decide +kernel
theorem dX6_pairs_66 : decode cX6_pairs 66 = .ok (.bipush 40, 2) := by decide +kernel
theorem dX6_pairs_68 : decode cX6_pairs 68 = .ok (.iload_n 1, 1) := by decide +kernel
theorem dX6_pairs_69 : decode cX6_pairs 69 = .ok (.imul, 1) := by decide +kernel
theorem dX6_pairs_70 : decode cX6_pairs 70 = .ok (.iload_n 3, 1) := by decide +kernel
theorem dX6_pairs_71 : decode cX6_pairs 71 = .ok (.iadd, 1) := by decide +kernel
theorem dX6_pairs_72 : decode cX6_pairs 72 = .ok (.iaload, 1) := by decide +kernel
theorem dX6_pairs_73 : decode cX6_pairs 73 = .ok (.invokestatic 138, 3) := by decide +kernel
theorem dX6_pairs_76 : decode cX6_pairs 76 = .ok (.ifCond .eq 28, 3) := by decide +kernel
theorem dX6_pairs_79 : decode cX6_pairs 79 = .ok (.aload_n 0, 1) := by decide +kernel
theorem dX6_pairs_80 : decode cX6_pairs 80 = .ok (.getfield 20, 3) := by decide +kernel
theorem dX6_pairs_83 : decode cX6_pairs 83 = .ok (.bipush 40, 2) := by decide +kernel
theorem dX6_pairs_85 : decode cX6_pairs 85 = .ok (.iload_n 1, 1) := by decide +kernel
theorem dX6_pairs_86 : decode cX6_pairs 86 = .ok (.imul, 1) := by decide +kernel
theorem dX6_pairs_87 : decode cX6_pairs 87 = .ok (.iload_n 3, 1) := by decide +kernel
theorem dX6_pairs_88 : decode cX6_pairs 88 = .ok (.iadd, 1) := by decide +kernel
theorem dX6_pairs_89 : decode cX6_pairs 89 = .ok (.iconst 1, 1) := by decide +kernel
theorem dX6_pairs_90 : decode cX6_pairs 90 = .ok (.iadd, 1) := by decide +kernel
theorem dX6_pairs_91 : decode cX6_pairs 91 = .ok (.iaload, 1) := by decide +kernel
theorem dX6_pairs_92 : decode cX6_pairs 92 = .ok (.iconst 0, 1) := by decide +kernel
theorem dX6_pairs_93 : decode cX6_pairs 93 = .ok (.iconst 1, 1) := by decide +kernel
theorem dX6_pairs_94 : decode cX6_pairs 94 = .ok (.invokestatic 64, 3) := by decide +kernel
theorem dX6_pairs_97 : decode cX6_pairs 97 = .ok (.ifCond .eq 7, 3) := by decide +kernel
theorem dX6_pairs_100 : decode cX6_pairs 100 = .ok (.iconst 1, 1) := by decide +kernel
theorem dX6_pairs_101 : decode cX6_pairs 101 = .ok (.goto 4, 3) := by decide +kernel
theorem dX6_pairs_104 : decode cX6_pairs 104 = .ok (.iconst 0, 1) := by decide +kernel
theorem dX6_pairs_105 : decode cX6_pairs 105 = .ok (.istore_n 2, 1) := by decide +kernel
theorem dX6_pairs_106 : decode cX6_pairs 106 = .ok (.iinc 3 2, 3) := by decide +kernel
theorem dX6_pairs_109 : decode cX6_pairs 109 = .ok (.goto (-61), 3) := by decide +kernel
theorem dX6_pairs_112 : decode cX6_pairs 112 = .ok (.iload_n 2, 1) := by decide +kernel
theorem dX6_pairs_113 : decode cX6_pairs 113 = .ok (.ifCond .eq 7, 3) := by decide +kernel
theorem dX6_pairs_116 : decode cX6_pairs 116 = .ok (.iconst 0, 1) := by decide +kernel
theorem dX6_pairs_117 : decode cX6_pairs 117 = .ok (.goto 8, 3) := by decide +kernel
theorem dX6_pairs_120 : decode cX6_pairs 120 = .ok (.aload_n 0, 1) := by decide +kernel
theorem dX6_pairs_121 : decode cX6_pairs 121 = .ok (.iconst 3, 1) := by decide +kernel
theorem dX6_pairs_122 : decode cX6_pairs 122 = .ok (.invokevirtual 72, 3) := by decide +kernel
theorem dX6_pairs_125 : decode cX6_pairs 125 = .ok (.ireturn, 1) := by decide +kernel
theorem dX6_kindsBy_0 : decode cX6_kindsBy 0 = .ok (.iconst 0, 1) := by decide +kernel
theorem dX6_kindsBy_1 : decode cX6_kindsBy 1 = .ok (.istore_n 3, 1) := by decide +kernel
theorem dX6_kindsBy_2 : decode cX6_kindsBy 2 = .ok (.iconst 0, 1) := by decide +kernel
theorem dX6_kindsBy_3 : decode cX6_kindsBy 3 = .ok (.istore 4, 2) := by decide +kernel
theorem dX6_kindsBy_5 : decode cX6_kindsBy 5 = .ok (.iload 4, 2) := by decide +kernel
theorem dX6_kindsBy_7 : decode cX6_kindsBy 7 = .ok (.iconst 5, 1) := by decide +kernel
theorem dX6_kindsBy_8 : decode cX6_kindsBy 8 = .ok (.if_icmp .gt 122, 3) := by decide +kernel
theorem dX6_kindsBy_11 : decode cX6_kindsBy 11 = .ok (.aload_n 0, 1) := by decide +kernel
theorem dX6_kindsBy_12 : decode cX6_kindsBy 12 = .ok (.iload_n 1, 1) := by decide +kernel
theorem dX6_kindsBy_13 : decode cX6_kindsBy 13 = .ok (.invokevirtual 118, 3) := by decide +kernel
theorem dX6_kindsBy_16 : decode cX6_kindsBy 16 = .ok (.iload 4, 2) := by decide +kernel
theorem dX6_kindsBy_18 : decode cX6_kindsBy 18 = .ok (.invokestatic 88, 3) := by decide +kernel
theorem dX6_kindsBy_21 : decode cX6_kindsBy 21 = .ok (.if_icmp .ge 7, 3) := by decide +kernel
theorem dX6_kindsBy_24 : decode cX6_kindsBy 24 = .ok (.iconst 1, 1) := by decide +kernel
theorem dX6_kindsBy_25 : decode cX6_kindsBy 25 = .ok (.goto 4, 3) := by decide +kernel
theorem dX6_kindsBy_28 : decode cX6_kindsBy 28 = .ok (.iconst 0, 1) := by decide +kernel
theorem dX6_kindsBy_29 : decode cX6_kindsBy 29 = .ok (.istore 5, 2) := by decide +kernel
theorem dX6_kindsBy_31 : decode cX6_kindsBy 31 = .ok (.iconst 0, 1) := by decide +kernel
theorem dX6_kindsBy_32 : decode cX6_kindsBy 32 = .ok (.istore 6, 2) := by decide +kernel
theorem dX6_kindsBy_34 : decode cX6_kindsBy 34 = .ok (.iload 6, 2) := by decide +kernel
theorem dX6_kindsBy_36 : decode cX6_kindsBy 36 = .ok (.aload_n 0, 1) := by decide +kernel
theorem dX6_kindsBy_37 : decode cX6_kindsBy 37 = .ok (.getfield 17, 3) := by decide +kernel
theorem dX6_kindsBy_40 : decode cX6_kindsBy 40 = .ok (.iload_n 2, 1) := by decide +kernel
theorem dX6_kindsBy_41 : decode cX6_kindsBy 41 = .ok (.iaload, 1) := by decide +kernel
theorem dX6_kindsBy_42 : decode cX6_kindsBy 42 = .ok (.if_icmp .ge 66, 3) := by decide +kernel
theorem dX6_kindsBy_45 : decode cX6_kindsBy 45 = .ok (.iload 5, 2) := by decide +kernel
theorem dX6_kindsBy_47 : decode cX6_kindsBy 47 = .ok (.ifCond .eq 61, 3) := by decide +kernel
theorem dX6_kindsBy_50 : decode cX6_kindsBy 50 = .ok (.aload_n 0, 1) := by decide +kernel
theorem dX6_kindsBy_51 : decode cX6_kindsBy 51 = .ok (.iload_n 1, 1) := by decide +kernel
theorem dX6_kindsBy_52 : decode cX6_kindsBy 52 = .ok (.iload 4, 2) := by decide +kernel
theorem dX6_kindsBy_54 : decode cX6_kindsBy 54 = .ok (.aload_n 0, 1) := by decide +kernel
theorem dX6_kindsBy_55 : decode cX6_kindsBy 55 = .ok (.getfield 20, 3) := by decide +kernel
theorem dX6_kindsBy_58 : decode cX6_kindsBy 58 = .ok (.bipush 40, 2) := by decide +kernel
theorem dX6_kindsBy_60 : decode cX6_kindsBy 60 = .ok (.iload_n 2, 1) := by decide +kernel
theorem dX6_kindsBy_61 : decode cX6_kindsBy 61 = .ok (.imul, 1) := by decide +kernel
theorem dX6_kindsBy_62 : decode cX6_kindsBy 62 = .ok (.iload 6, 2) := by decide +kernel
theorem dX6_kindsBy_64 : decode cX6_kindsBy 64 = .ok (.iadd, 1) := by decide +kernel
theorem dX6_kindsBy_65 : decode cX6_kindsBy 65 = .ok (.iaload, 1) := by decide +kernel
theorem dX6_kindsBy_66 : decode cX6_kindsBy 66 = .ok (.invokevirtual 169, 3) := by decide +kernel
theorem dX6_kindsBy_69 : decode cX6_kindsBy 69 = .ok (.aload_n 0, 1) := by decide +kernel
theorem dX6_kindsBy_70 : decode cX6_kindsBy 70 = .ok (.getfield 20, 3) := by decide +kernel
theorem dX6_kindsBy_73 : decode cX6_kindsBy 73 = .ok (.bipush 40, 2) := by decide +kernel
theorem dX6_kindsBy_75 : decode cX6_kindsBy 75 = .ok (.iload_n 2, 1) := by decide +kernel
theorem dX6_kindsBy_76 : decode cX6_kindsBy 76 = .ok (.imul, 1) := by decide +kernel
theorem dX6_kindsBy_77 : decode cX6_kindsBy 77 = .ok (.iload 6, 2) := by decide +kernel
theorem dX6_kindsBy_79 : decode cX6_kindsBy 79 = .ok (.iadd, 1) := by decide +kernel
theorem dX6_kindsBy_80 : decode cX6_kindsBy 80 = .ok (.iconst 1, 1) := by decide +kernel
theorem dX6_kindsBy_81 : decode cX6_kindsBy 81 = .ok (.iadd, 1) := by decide +kernel
theorem dX6_kindsBy_82 : decode cX6_kindsBy 82 = .ok (.iaload, 1) := by decide +kernel
theorem dX6_kindsBy_83 : decode cX6_kindsBy 83 = .ok (.iconst 1, 1) := by decide +kernel
theorem dX6_kindsBy_84 : decode cX6_kindsBy 84 = .ok (.if_icmp .ne 7, 3) := by decide +kernel
theorem dX6_kindsBy_87 : decode cX6_kindsBy 87 = .ok (.iconst 1, 1) := by decide +kernel
theorem dX6_kindsBy_88 : decode cX6_kindsBy 88 = .ok (.goto 4, 3) := by decide +kernel
theorem dX6_kindsBy_91 : decode cX6_kindsBy 91 = .ok (.iconst 0, 1) := by decide +kernel
theorem dX6_kindsBy_92 : decode cX6_kindsBy 92 = .ok (.if_icmp .ne 7, 3) := by decide +kernel
theorem dX6_kindsBy_95 : decode cX6_kindsBy 95 = .ok (.iconst 1, 1) := by decide +kernel
theorem dX6_kindsBy_96 : decode cX6_kindsBy 96 = .ok (.goto 4, 3) := by decide +kernel
theorem dX6_kindsBy_99 : decode cX6_kindsBy 99 = .ok (.iconst 0, 1) := by decide +kernel
theorem dX6_kindsBy_100 : decode cX6_kindsBy 100 = .ok (.istore 5, 2) := by decide +kernel
theorem dX6_kindsBy_102 : decode cX6_kindsBy 102 = .ok (.iinc 6 2, 3) := by decide +kernel
theorem dX6_kindsBy_105 : decode cX6_kindsBy 105 = .ok (.goto (-71), 3) := by decide +kernel
theorem dX6_kindsBy_108 : decode cX6_kindsBy 108 = .ok (.iload_n 3, 1) := by decide +kernel
theorem dX6_kindsBy_109 : decode cX6_kindsBy 109 = .ok (.iload 5, 2) := by decide +kernel
theorem dX6_kindsBy_111 : decode cX6_kindsBy 111 = .ok (.ifCond .eq 10, 3) := by decide +kernel
theorem dX6_kindsBy_114 : decode cX6_kindsBy 114 = .ok (.iconst 1, 1) := by decide +kernel
theorem dX6_kindsBy_115 : decode cX6_kindsBy 115 = .ok (.iload 4, 2) := by decide +kernel
theorem dX6_kindsBy_117 : decode cX6_kindsBy 117 = .ok (.ishl, 1) := by decide +kernel
theorem dX6_kindsBy_118 : decode cX6_kindsBy 118 = .ok (.goto 4, 3) := by decide +kernel
theorem dX6_kindsBy_121 : decode cX6_kindsBy 121 = .ok (.iconst 0, 1) := by decide +kernel
theorem dX6_kindsBy_122 : decode cX6_kindsBy 122 = .ok (.ior, 1) := by decide +kernel
theorem dX6_kindsBy_123 : decode cX6_kindsBy 123 = .ok (.istore_n 3, 1) := by decide +kernel
theorem dX6_kindsBy_124 : decode cX6_kindsBy 124 = .ok (.iinc 4 1, 3) := by decide +kernel
theorem dX6_kindsBy_127 : decode cX6_kindsBy 127 = .ok (.goto (-122), 3) := by decide +kernel
theorem dX6_kindsBy_130 : decode cX6_kindsBy 130 = .ok (.iload_n 3, 1) := by decide +kernel
theorem dX6_kindsBy_131 : decode cX6_kindsBy 131 = .ok (.ireturn, 1) := by decide +kernel
theorem dX6_kinds_0 : decode cX6_kinds 0 = .ok (.aload_n 0, 1) := by decide +kernel
theorem dX6_kinds_1 : decode cX6_kinds 1 = .ok (.iload_n 1, 1) := by decide +kernel
theorem dX6_kinds_2 : decode cX6_kinds 2 = .ok (.invokevirtual 128, 3) := by decide +kernel
theorem dX6_kinds_5 : decode cX6_kinds 5 = .ok (.ifCond .eq 10, 3) := by decide +kernel
theorem dX6_kinds_8 : decode cX6_kinds 8 = .ok (.iload_n 2, 1) := by decide +kernel
theorem dX6_kinds_9 : decode cX6_kinds 9 = .ok (.invokestatic 68, 3) := by decide +kernel
theorem dX6_kinds_12 : decode cX6_kinds 12 = .ok (.ifCond .ne 5, 3) := by decide +kernel
theorem dX6_kinds_15 : decode cX6_kinds 15 = .ok (.iconst (-1), 1) := by decide +kernel
theorem dX6_kinds_16 : decode cX6_kinds 16 = .ok (.ireturn, 1) := by decide +kernel
theorem dX6_kinds_17 : decode cX6_kinds 17 = .ok (.aload_n 0, 1) := by decide +kernel
theorem dX6_kinds_18 : decode cX6_kinds 18 = .ok (.iload_n 2, 1) := by decide +kernel
theorem dX6_kinds_19 : decode cX6_kinds 19 = .ok (.invokevirtual 172, 3) := by decide +kernel
theorem dX6_kinds_22 : decode cX6_kinds 22 = .ok (.istore_n 3, 1) := by decide +kernel
theorem dX6_kinds_23 : decode cX6_kinds 23 = .ok (.iload_n 3, 1) := by decide +kernel
theorem dX6_kinds_24 : decode cX6_kinds 24 = .ok (.ifCond .eq 7, 3) := by decide +kernel
theorem dX6_kinds_27 : decode cX6_kinds 27 = .ok (.iload_n 3, 1) := by decide +kernel
theorem dX6_kinds_28 : decode cX6_kinds 28 = .ok (.goto 9, 3) := by decide +kernel
theorem dX6_kinds_31 : decode cX6_kinds 31 = .ok (.aload_n 0, 1) := by decide +kernel
theorem dX6_kinds_32 : decode cX6_kinds 32 = .ok (.iload_n 1, 1) := by decide +kernel
theorem dX6_kinds_33 : decode cX6_kinds 33 = .ok (.iload_n 2, 1) := by decide +kernel
theorem dX6_kinds_34 : decode cX6_kinds 34 = .ok (.invokevirtual 175, 3) := by decide +kernel
theorem dX6_kinds_37 : decode cX6_kinds 37 = .ok (.ireturn, 1) := by decide +kernel
theorem dX6_next_0 : decode cX6_next 0 = .ok (.aload_n 0, 1) := by decide +kernel
theorem dX6_next_1 : decode cX6_next 1 = .ok (.iload_n 1, 1) := by decide +kernel
theorem dX6_next_2 : decode cX6_next 2 = .ok (.invokevirtual 128, 3) := by decide +kernel
theorem dX6_next_5 : decode cX6_next 5 = .ok (.ifCond .eq 10, 3) := by decide +kernel
theorem dX6_next_8 : decode cX6_next 8 = .ok (.iload_n 2, 1) := by decide +kernel
theorem dX6_next_9 : decode cX6_next 9 = .ok (.invokestatic 68, 3) := by decide +kernel
theorem dX6_next_12 : decode cX6_next 12 = .ok (.ifCond .ne 5, 3) := by decide +kernel
theorem dX6_next_15 : decode cX6_next 15 = .ok (.iconst (-1), 1) := by decide +kernel
theorem dX6_next_16 : decode cX6_next 16 = .ok (.ireturn, 1) := by decide +kernel
theorem dX6_next_17 : decode cX6_next 17 = .ok (.aload_n 0, 1) := by decide +kernel
theorem dX6_next_18 : decode cX6_next 18 = .ok (.iload_n 2, 1) := by decide +kernel
theorem dX6_next_19 : decode cX6_next 19 = .ok (.invokevirtual 172, 3) := by decide +kernel
theorem dX6_next_22 : decode cX6_next 22 = .ok (.istore_n 3, 1) := by decide +kernel
theorem dX6_next_23 : decode cX6_next 23 = .ok (.iload_n 3, 1) := by decide +kernel
theorem dX6_next_24 : decode cX6_next 24 = .ok (.ifCond .eq 5, 3) := by decide +kernel
theorem dX6_next_27 : decode cX6_next 27 = .ok (.iload_n 3, 1) := by decide +kernel
theorem dX6_next_28 : decode cX6_next 28 = .ok (.ireturn, 1) := by decide +kernel
theorem dX6_next_29 : decode cX6_next 29 = .ok (.aload_n 0, 1) := by decide +kernel
theorem dX6_next_30 : decode cX6_next 30 = .ok (.iload_n 1, 1) := by decide +kernel
theorem dX6_next_31 : decode cX6_next 31 = .ok (.iload_n 2, 1) := by decide +kernel
theorem dX6_next_32 : decode cX6_next 32 = .ok (.invokevirtual 175, 3) := by decide +kernel
theorem dX6_next_35 : decode cX6_next 35 = .ok (.istore 4, 2) := by decide +kernel
theorem dX6_next_37 : decode cX6_next 37 = .ok (.bipush (-9), 2) := by decide +kernel
theorem dX6_next_39 : decode cX6_next 39 = .ok (.istore 5, 2) := by decide +kernel
theorem dX6_next_41 : decode cX6_next 41 = .ok (.bipush 7, 2) := by decide +kernel
theorem dX6_next_43 : decode cX6_next 43 = .ok (.istore 6, 2) := by decide +kernel
theorem dX6_next_45 : decode cX6_next 45 = .ok (.iconst 0, 1) := by decide +kernel
theorem dX6_next_46 : decode cX6_next 46 = .ok (.istore 7, 2) := by decide +kernel
theorem dX6_next_48 : decode cX6_next 48 = .ok (.iload 7, 2) := by decide +kernel
theorem dX6_next_50 : decode cX6_next 50 = .ok (.bipush 9, 2) := by decide +kernel
theorem dX6_next_52 : decode cX6_next 52 = .ok (.if_icmp .ge 124, 3) := by decide +kernel
theorem dX6_next_55 : decode cX6_next 55 = .ok (.iload 4, 2) := by decide +kernel
theorem dX6_next_57 : decode cX6_next 57 = .ok (.ifCond .eq 119, 3) := by decide +kernel
theorem dX6_next_60 : decode cX6_next 60 = .ok (.iconst 0, 1) := by decide +kernel
theorem dX6_next_61 : decode cX6_next 61 = .ok (.istore 8, 2) := by decide +kernel
theorem dX6_next_63 : decode cX6_next 63 = .ok (.iconst 0, 1) := by decide +kernel
theorem dX6_next_64 : decode cX6_next 64 = .ok (.istore 9, 2) := by decide +kernel
theorem dX6_next_66 : decode cX6_next 66 = .ok (.iload 9, 2) := by decide +kernel
theorem dX6_next_68 : decode cX6_next 68 = .ok (.iconst 5, 1) := by decide +kernel
theorem dX6_next_69 : decode cX6_next 69 = .ok (.if_icmp .gt 41, 3) := by decide +kernel
theorem dX6_next_72 : decode cX6_next 72 = .ok (.iload 8, 2) := by decide +kernel
theorem dX6_next_74 : decode cX6_next 74 = .ok (.iload 4, 2) := by decide +kernel
theorem dX6_next_76 : decode cX6_next 76 = .ok (.iload 9, 2) := by decide +kernel
theorem dX6_next_78 : decode cX6_next 78 = .ok (.invokestatic 104, 3) := by decide +kernel
theorem dX6_next_81 : decode cX6_next 81 = .ok (.ifCond .eq 19, 3) := by decide +kernel
theorem dX6_next_84 : decode cX6_next 84 = .ok (.aload_n 0, 1) := by decide +kernel
theorem dX6_next_85 : decode cX6_next 85 = .ok (.iload_n 1, 1) := by decide +kernel
theorem dX6_next_86 : decode cX6_next 86 = .ok (.iload 9, 2) := by decide +kernel
theorem dX6_next_88 : decode cX6_next 88 = .ok (.iload 7, 2) := by decide +kernel
theorem dX6_next_90 : decode cX6_next 90 = .ok (.invokevirtual 169, 3) := by decide +kernel
theorem dX6_next_93 : decode cX6_next 93 = .ok (.ifCond .eq 7, 3) := by decide +kernel
theorem dX6_next_96 : decode cX6_next 96 = .ok (.iconst 1, 1) := by decide +kernel
theorem dX6_next_97 : decode cX6_next 97 = .ok (.goto 4, 3) := by decide +kernel
theorem dX6_next_100 : decode cX6_next 100 = .ok (.iconst 0, 1) := by decide +kernel
theorem dX6_next_101 : decode cX6_next 101 = .ok (.iadd, 1) := by decide +kernel
theorem dX6_next_102 : decode cX6_next 102 = .ok (.istore 8, 2) := by decide +kernel
theorem dX6_next_104 : decode cX6_next 104 = .ok (.iinc 9 1, 3) := by decide +kernel
theorem dX6_next_107 : decode cX6_next 107 = .ok (.goto (-41), 3) := by decide +kernel
theorem dX6_next_110 : decode cX6_next 110 = .ok (.iload 8, 2) := by decide +kernel
theorem dX6_next_112 : decode cX6_next 112 = .ok (.iload 4, 2) := by decide +kernel
theorem dX6_next_114 : decode cX6_next 114 = .ok (.invokestatic 135, 3) := by decide +kernel
theorem dX6_next_117 : decode cX6_next 117 = .ok (.iload 8, 2) := by decide +kernel
theorem dX6_next_119 : decode cX6_next 119 = .ok (.isub, 1) := by decide +kernel
theorem dX6_next_120 : decode cX6_next 120 = .ok (.if_icmp .le 8, 3) := by decide +kernel
theorem dX6_next_123 : decode cX6_next 123 = .ok (.iload 8, 2) := by decide +kernel
theorem dX6_next_125 : decode cX6_next 125 = .ok (.goto 11, 3) := by decide +kernel
theorem dX6_next_128 : decode cX6_next 128 = .ok (.iload 4, 2) := by decide +kernel
theorem dX6_next_130 : decode cX6_next 130 = .ok (.invokestatic 135, 3) := by decide +kernel
theorem dX6_next_133 : decode cX6_next 133 = .ok (.iload 8, 2) := by decide +kernel
theorem dX6_next_135 : decode cX6_next 135 = .ok (.isub, 1) := by decide +kernel
theorem dX6_next_136 : decode cX6_next 136 = .ok (.istore 9, 2) := by decide +kernel
theorem dX6_next_138 : decode cX6_next 138 = .ok (.iload 9, 2) := by decide +kernel
theorem dX6_next_140 : decode cX6_next 140 = .ok (.iload 6, 2) := by decide +kernel
theorem dX6_next_142 : decode cX6_next 142 = .ok (.if_icmp .ge 8, 3) := by decide +kernel
theorem dX6_next_145 : decode cX6_next 145 = .ok (.iload 7, 2) := by decide +kernel
theorem dX6_next_147 : decode cX6_next 147 = .ok (.goto 5, 3) := by decide +kernel
theorem dX6_next_150 : decode cX6_next 150 = .ok (.iload 5, 2) := by decide +kernel
theorem dX6_next_152 : decode cX6_next 152 = .ok (.istore 5, 2) := by decide +kernel
theorem dX6_next_154 : decode cX6_next 154 = .ok (.iload 9, 2) := by decide +kernel
theorem dX6_next_156 : decode cX6_next 156 = .ok (.iload 6, 2) := by decide +kernel
theorem dX6_next_158 : decode cX6_next 158 = .ok (.if_icmp .ge 8, 3) := by decide +kernel
theorem dX6_next_161 : decode cX6_next 161 = .ok (.iload 9, 2) := by decide +kernel
theorem dX6_next_163 : decode cX6_next 163 = .ok (.goto 5, 3) := by decide +kernel
theorem dX6_next_166 : decode cX6_next 166 = .ok (.iload 6, 2) := by decide +kernel
theorem dX6_next_168 : decode cX6_next 168 = .ok (.istore 6, 2) := by decide +kernel
theorem dX6_next_170 : decode cX6_next 170 = .ok (.iinc 7 1, 3) := by decide +kernel
theorem dX6_next_173 : decode cX6_next 173 = .ok (.goto (-125), 3) := by decide +kernel
theorem dX6_next_176 : decode cX6_next 176 = .ok (.iload 5, 2) := by decide +kernel
theorem dX6_next_178 : decode cX6_next 178 = .ok (.bipush (-9), 2) := by decide +kernel
theorem dX6_next_180 : decode cX6_next 180 = .ok (.if_icmp .eq 10, 3) := by decide +kernel
theorem dX6_next_183 : decode cX6_next 183 = .ok (.aload_n 0, 1) := by decide +kernel
theorem dX6_next_184 : decode cX6_next 184 = .ok (.iload 6, 2) := by decide +kernel
theorem dX6_next_186 : decode cX6_next 186 = .ok (.invokevirtual 76, 3) := by decide +kernel
theorem dX6_next_189 : decode cX6_next 189 = .ok (.pop, 1) := by decide +kernel
theorem dX6_next_190 : decode cX6_next 190 = .ok (.iload 5, 2) := by decide +kernel
theorem dX6_next_192 : decode cX6_next 192 = .ok (.ireturn, 1) := by decide +kernel
theorem dX6_sums_0 : decode cX6_sums 0 = .ok (.aload_n 0, 1) := by decide +kernel
theorem dX6_sums_1 : decode cX6_sums 1 = .ok (.getfield 94, 3) := by decide +kernel
theorem dX6_sums_4 : decode cX6_sums 4 = .ok (.ifCond .ne 6, 3) := by decide +kernel
theorem dX6_sums_7 : decode cX6_sums 7 = .ok (.bipush (-4), 2) := by decide +kernel
theorem dX6_sums_9 : decode cX6_sums 9 = .ok (.ireturn, 1) := by decide +kernel
theorem dX6_sums_10 : decode cX6_sums 10 = .ok (.iload_n 1, 1) := by decide +kernel
theorem dX6_sums_11 : decode cX6_sums 11 = .ok (.iconst 0, 1) := by decide +kernel
theorem dX6_sums_12 : decode cX6_sums 12 = .ok (.bipush 18, 2) := by decide +kernel
theorem dX6_sums_14 : decode cX6_sums 14 = .ok (.invokestatic 64, 3) := by decide +kernel
theorem dX6_sums_17 : decode cX6_sums 17 = .ok (.ifCond .ne 5, 3) := by decide +kernel
theorem dX6_sums_20 : decode cX6_sums 20 = .ok (.iconst (-1), 1) := by decide +kernel
theorem dX6_sums_21 : decode cX6_sums 21 = .ok (.ireturn, 1) := by decide +kernel
theorem dX6_sums_22 : decode cX6_sums 22 = .ok (.iconst 0, 1) := by decide +kernel
theorem dX6_sums_23 : decode cX6_sums 23 = .ok (.istore_n 2, 1) := by decide +kernel
theorem dX6_sums_24 : decode cX6_sums 24 = .ok (.bipush (-9), 2) := by decide +kernel
theorem dX6_sums_26 : decode cX6_sums 26 = .ok (.istore_n 3, 1) := by decide +kernel
theorem dX6_sums_27 : decode cX6_sums 27 = .ok (.sipush 511, 3) := by decide +kernel
theorem dX6_sums_30 : decode cX6_sums 30 = .ok (.istore 4, 2) := by decide +kernel
theorem dX6_sums_32 : decode cX6_sums 32 = .ok (.iload 4, 2) := by decide +kernel
theorem dX6_sums_34 : decode cX6_sums 34 = .ok (.ifCond .lt 80, 3) := by decide +kernel
theorem dX6_sums_37 : decode cX6_sums 37 = .ok (.iconst 0, 1) := by decide +kernel
theorem dX6_sums_38 : decode cX6_sums 38 = .ok (.istore 5, 2) := by decide +kernel
theorem dX6_sums_40 : decode cX6_sums 40 = .ok (.iconst 0, 1) := by decide +kernel
theorem dX6_sums_41 : decode cX6_sums 41 = .ok (.istore 6, 2) := by decide +kernel
theorem dX6_sums_43 : decode cX6_sums 43 = .ok (.iload 6, 2) := by decide +kernel
theorem dX6_sums_45 : decode cX6_sums 45 = .ok (.bipush 9, 2) := by decide +kernel
theorem dX6_sums_47 : decode cX6_sums 47 = .ok (.if_icmp .ge 34, 3) := by decide +kernel
theorem dX6_sums_50 : decode cX6_sums 50 = .ok (.iload 5, 2) := by decide +kernel
theorem dX6_sums_52 : decode cX6_sums 52 = .ok (.iload 4, 2) := by decide +kernel
theorem dX6_sums_54 : decode cX6_sums 54 = .ok (.iload 6, 2) := by decide +kernel
theorem dX6_sums_56 : decode cX6_sums 56 = .ok (.invokestatic 104, 3) := by decide +kernel
theorem dX6_sums_59 : decode cX6_sums 59 = .ok (.ifCond .eq 12, 3) := by decide +kernel
theorem dX6_sums_62 : decode cX6_sums 62 = .ok (.aload_n 0, 1) := by decide +kernel
theorem dX6_sums_63 : decode cX6_sums 63 = .ok (.iload 6, 2) := by decide +kernel
theorem dX6_sums_65 : decode cX6_sums 65 = .ok (.invokevirtual 118, 3) := by decide +kernel
theorem dX6_sums_68 : decode cX6_sums 68 = .ok (.goto 4, 3) := by decide +kernel
theorem dX6_sums_71 : decode cX6_sums 71 = .ok (.iconst 0, 1) := by decide +kernel
theorem dX6_sums_72 : decode cX6_sums 72 = .ok (.iadd, 1) := by decide +kernel
theorem dX6_sums_73 : decode cX6_sums 73 = .ok (.istore 5, 2) := by decide +kernel
theorem dX6_sums_75 : decode cX6_sums 75 = .ok (.iinc 6 1, 3) := by decide +kernel
theorem dX6_sums_78 : decode cX6_sums 78 = .ok (.goto (-35), 3) := by decide +kernel
theorem dX6_sums_81 : decode cX6_sums 81 = .ok (.iload_n 2, 1) := by decide +kernel
theorem dX6_sums_82 : decode cX6_sums 82 = .ok (.iload 5, 2) := by decide +kernel
theorem dX6_sums_84 : decode cX6_sums 84 = .ok (.iload_n 1, 1) := by decide +kernel
theorem dX6_sums_85 : decode cX6_sums 85 = .ok (.if_icmp .ne 7, 3) := by decide +kernel
theorem dX6_sums_88 : decode cX6_sums 88 = .ok (.iconst 1, 1) := by decide +kernel
theorem dX6_sums_89 : decode cX6_sums 89 = .ok (.goto 4, 3) := by decide +kernel
theorem dX6_sums_92 : decode cX6_sums 92 = .ok (.iconst 0, 1) := by decide +kernel
theorem dX6_sums_93 : decode cX6_sums 93 = .ok (.iadd, 1) := by decide +kernel
theorem dX6_sums_94 : decode cX6_sums 94 = .ok (.istore_n 2, 1) := by decide +kernel
theorem dX6_sums_95 : decode cX6_sums 95 = .ok (.iload 5, 2) := by decide +kernel
theorem dX6_sums_97 : decode cX6_sums 97 = .ok (.iload_n 1, 1) := by decide +kernel
theorem dX6_sums_98 : decode cX6_sums 98 = .ok (.if_icmp .ne 8, 3) := by decide +kernel
theorem dX6_sums_101 : decode cX6_sums 101 = .ok (.iload 4, 2) := by decide +kernel
theorem dX6_sums_103 : decode cX6_sums 103 = .ok (.goto 4, 3) := by decide +kernel
theorem dX6_sums_106 : decode cX6_sums 106 = .ok (.iload_n 3, 1) := by decide +kernel
theorem dX6_sums_107 : decode cX6_sums 107 = .ok (.istore_n 3, 1) := by decide +kernel
theorem dX6_sums_108 : decode cX6_sums 108 = .ok (.iinc 4 (-1), 3) := by decide +kernel
theorem dX6_sums_111 : decode cX6_sums 111 = .ok (.goto (-79), 3) := by decide +kernel
theorem dX6_sums_114 : decode cX6_sums 114 = .ok (.aload_n 0, 1) := by decide +kernel
theorem dX6_sums_115 : decode cX6_sums 115 = .ok (.iload_n 2, 1) := by decide +kernel
theorem dX6_sums_116 : decode cX6_sums 116 = .ok (.i2l, 1) := by decide +kernel
theorem dX6_sums_117 : decode cX6_sums 117 = .ok (.putfield 61, 3) := by decide +kernel
theorem dX6_sums_120 : decode cX6_sums 120 = .ok (.aload_n 0, 1) := by decide +kernel
theorem dX6_sums_121 : decode cX6_sums 121 = .ok (.lconst 1, 1) := by decide +kernel
theorem dX6_sums_122 : decode cX6_sums 122 = .ok (.putfield 13, 3) := by decide +kernel
theorem dX6_sums_125 : decode cX6_sums 125 = .ok (.aload_n 0, 1) := by decide +kernel
theorem dX6_sums_126 : decode cX6_sums 126 = .ok (.iload_n 3, 1) := by decide +kernel
theorem dX6_sums_127 : decode cX6_sums 127 = .ok (.invokevirtual 76, 3) := by decide +kernel
theorem dX6_sums_130 : decode cX6_sums 130 = .ok (.ireturn, 1) := by decide +kernel
theorem dX6_worthOf_0 : decode cX6_worthOf 0 = .ok (.aload_n 0, 1) := by decide +kernel
theorem dX6_worthOf_1 : decode cX6_worthOf 1 = .ok (.invokevirtual 151, 3) := by decide +kernel
theorem dX6_worthOf_4 : decode cX6_worthOf 4 = .ok (.iconst 1, 1) := by decide +kernel
theorem dX6_worthOf_5 : decode cX6_worthOf 5 = .ok (.istore 4, 2) := by decide +kernel
theorem dX6_worthOf_7 : decode cX6_worthOf 7 = .ok (.iconst 1, 1) := by decide +kernel
theorem dX6_worthOf_8 : decode cX6_worthOf 8 = .ok (.istore 5, 2) := by decide +kernel
theorem dX6_worthOf_10 : decode cX6_worthOf 10 = .ok (.iload 5, 2) := by decide +kernel
theorem dX6_worthOf_12 : decode cX6_worthOf 12 = .ok (.iload_n 2, 1) := by decide +kernel
theorem dX6_worthOf_13 : decode cX6_worthOf 13 = .ok (.if_icmp .ge 16, 3) := by decide +kernel
theorem dX6_worthOf_16 : decode cX6_worthOf 16 = .ok (.iload 4, 2) := by decide +kernel
theorem dX6_worthOf_18 : decode cX6_worthOf 18 = .ok (.bipush 10, 2) := by decide +kernel
theorem dX6_worthOf_20 : decode cX6_worthOf 20 = .ok (.imul, 1) := by decide +kernel
theorem dX6_worthOf_21 : decode cX6_worthOf 21 = .ok (.istore 4, 2) := by decide +kernel
theorem dX6_worthOf_23 : decode cX6_worthOf 23 = .ok (.iinc 5 1, 3) := by decide +kernel
theorem dX6_worthOf_26 : decode cX6_worthOf 26 = .ok (.goto (-16), 3) := by decide +kernel
theorem dX6_worthOf_29 : decode cX6_worthOf 29 = .ok (.iconst 0, 1) := by decide +kernel
theorem dX6_worthOf_30 : decode cX6_worthOf 30 = .ok (.istore 5, 2) := by decide +kernel
theorem dX6_worthOf_32 : decode cX6_worthOf 32 = .ok (.iload 5, 2) := by decide +kernel
theorem dX6_worthOf_34 : decode cX6_worthOf 34 = .ok (.iload_n 2, 1) := by decide +kernel
theorem dX6_worthOf_35 : decode cX6_worthOf 35 = .ok (.if_icmp .ge 44, 3) := by decide +kernel
theorem dX6_worthOf_38 : decode cX6_worthOf 38 = .ok (.iload_n 1, 1) := by decide +kernel
theorem dX6_worthOf_39 : decode cX6_worthOf 39 = .ok (.iload 4, 2) := by decide +kernel
theorem dX6_worthOf_41 : decode cX6_worthOf 41 = .ok (.idiv, 1) := by decide +kernel
theorem dX6_worthOf_42 : decode cX6_worthOf 42 = .ok (.bipush 10, 2) := by decide +kernel
theorem dX6_worthOf_44 : decode cX6_worthOf 44 = .ok (.irem, 1) := by decide +kernel
theorem dX6_worthOf_45 : decode cX6_worthOf 45 = .ok (.istore 6, 2) := by decide +kernel
theorem dX6_worthOf_47 : decode cX6_worthOf 47 = .ok (.iload 6, 2) := by decide +kernel
theorem dX6_worthOf_49 : decode cX6_worthOf 49 = .ok (.bipush 9, 2) := by decide +kernel
theorem dX6_worthOf_51 : decode cX6_worthOf 51 = .ok (.if_icmp .ge 15, 3) := by decide +kernel
theorem dX6_worthOf_54 : decode cX6_worthOf 54 = .ok (.aload_n 0, 1) := by decide +kernel
theorem dX6_worthOf_55 : decode cX6_worthOf 55 = .ok (.aload_n 0, 1) := by decide +kernel
theorem dX6_worthOf_56 : decode cX6_worthOf 56 = .ok (.getfield 48, 3) := by decide +kernel
theorem dX6_worthOf_59 : decode cX6_worthOf 59 = .ok (.iconst 0, 1) := by decide +kernel
theorem dX6_worthOf_60 : decode cX6_worthOf 60 = .ok (.iload 6, 2) := by decide +kernel
theorem dX6_worthOf_62 : decode cX6_worthOf 62 = .ok (.iconst 0, 1) := by decide +kernel
theorem dX6_worthOf_63 : decode cX6_worthOf 63 = .ok (.invokevirtual 144, 3) := by decide +kernel
theorem dX6_worthOf_66 : decode cX6_worthOf 66 = .ok (.iload 4, 2) := by decide +kernel
theorem dX6_worthOf_68 : decode cX6_worthOf 68 = .ok (.bipush 10, 2) := by decide +kernel
theorem dX6_worthOf_70 : decode cX6_worthOf 70 = .ok (.idiv, 1) := by decide +kernel
theorem dX6_worthOf_71 : decode cX6_worthOf 71 = .ok (.istore 4, 2) := by decide +kernel
theorem dX6_worthOf_73 : decode cX6_worthOf 73 = .ok (.iinc 5 1, 3) := by decide +kernel
theorem dX6_worthOf_76 : decode cX6_worthOf 76 = .ok (.goto (-44), 3) := by decide +kernel
theorem dX6_worthOf_79 : decode cX6_worthOf 79 = .ok (.aload_n 0, 1) := by decide +kernel
theorem dX6_worthOf_80 : decode cX6_worthOf 80 = .ok (.aload_n 0, 1) := by decide +kernel
theorem dX6_worthOf_81 : decode cX6_worthOf 81 = .ok (.getfield 48, 3) := by decide +kernel
theorem dX6_worthOf_84 : decode cX6_worthOf 84 = .ok (.iconst 0, 1) := by decide +kernel
theorem dX6_worthOf_85 : decode cX6_worthOf 85 = .ok (.invokevirtual 110, 3) := by decide +kernel
theorem dX6_worthOf_88 : decode cX6_worthOf 88 = .ok (.istore 5, 2) := by decide +kernel
theorem dX6_worthOf_90 : decode cX6_worthOf 90 = .ok (.iload 5, 2) := by decide +kernel
theorem dX6_worthOf_92 : decode cX6_worthOf 92 = .ok (.iload_n 3, 1) := by decide +kernel
theorem dX6_worthOf_93 : decode cX6_worthOf 93 = .ok (.iand, 1) := by decide +kernel
theorem dX6_worthOf_94 : decode cX6_worthOf 94 = .ok (.invokestatic 135, 3) := by decide +kernel
theorem dX6_worthOf_97 : decode cX6_worthOf 97 = .ok (.iload 5, 2) := by decide +kernel
theorem dX6_worthOf_99 : decode cX6_worthOf 99 = .ok (.iload_n 3, 1) := by decide +kernel
theorem dX6_worthOf_100 : decode cX6_worthOf 100 = .ok (.iconst (-1), 1) := by decide +kernel
theorem dX6_worthOf_101 : decode cX6_worthOf 101 = .ok (.ixor, 1) := by decide +kernel
theorem dX6_worthOf_102 : decode cX6_worthOf 102 = .ok (.iand, 1) := by decide +kernel
theorem dX6_worthOf_103 : decode cX6_worthOf 103 = .ok (.invokestatic 135, 3) := by decide +kernel
theorem dX6_worthOf_106 : decode cX6_worthOf 106 = .ok (.isub, 1) := by decide +kernel
theorem dX6_worthOf_107 : decode cX6_worthOf 107 = .ok (.ireturn, 1) := by decide +kernel
theorem dX6_duel_0 : decode cX6_duel 0 = .ok (.aload_n 0, 1) := by decide +kernel
theorem dX6_duel_1 : decode cX6_duel 1 = .ok (.getfield 94, 3) := by decide +kernel
theorem dX6_duel_4 : decode cX6_duel 4 = .ok (.ifCond .ne 6, 3) := by decide +kernel
theorem dX6_duel_7 : decode cX6_duel 7 = .ok (.bipush (-4), 2) := by decide +kernel
theorem dX6_duel_9 : decode cX6_duel 9 = .ok (.ireturn, 1) := by decide +kernel
theorem dX6_duel_10 : decode cX6_duel 10 = .ok (.iload_n 1, 1) := by decide +kernel
theorem dX6_duel_11 : decode cX6_duel 11 = .ok (.invokestatic 157, 3) := by decide +kernel
theorem dX6_duel_14 : decode cX6_duel 14 = .ok (.ifCond .eq 12, 3) := by decide +kernel
theorem dX6_duel_17 : decode cX6_duel 17 = .ok (.iload_n 2, 1) := by decide +kernel
theorem dX6_duel_18 : decode cX6_duel 18 = .ok (.iconst 0, 1) := by decide +kernel
theorem dX6_duel_19 : decode cX6_duel 19 = .ok (.iconst 2, 1) := by decide +kernel
theorem dX6_duel_20 : decode cX6_duel 20 = .ok (.invokestatic 64, 3) := by decide +kernel
theorem dX6_duel_23 : decode cX6_duel 23 = .ok (.ifCond .ne 5, 3) := by decide +kernel
theorem dX6_duel_26 : decode cX6_duel 26 = .ok (.iconst (-1), 1) := by decide +kernel
theorem dX6_duel_27 : decode cX6_duel 27 = .ok (.ireturn, 1) := by decide +kernel
theorem dX6_duel_28 : decode cX6_duel 28 = .ok (.iconst 1, 1) := by decide +kernel
theorem dX6_duel_29 : decode cX6_duel 29 = .ok (.istore_n 3, 1) := by decide +kernel
theorem dX6_duel_30 : decode cX6_duel 30 = .ok (.iconst 0, 1) := by decide +kernel
theorem dX6_duel_31 : decode cX6_duel 31 = .ok (.istore 4, 2) := by decide +kernel
theorem dX6_duel_33 : decode cX6_duel 33 = .ok (.iload 4, 2) := by decide +kernel
theorem dX6_duel_35 : decode cX6_duel 35 = .ok (.iconst 2, 1) := by decide +kernel
theorem dX6_duel_36 : decode cX6_duel 36 = .ok (.iload_n 2, 1) := by decide +kernel
theorem dX6_duel_37 : decode cX6_duel 37 = .ok (.imul, 1) := by decide +kernel
theorem dX6_duel_38 : decode cX6_duel 38 = .ok (.if_icmp .ge 14, 3) := by decide +kernel
theorem dX6_duel_41 : decode cX6_duel 41 = .ok (.iload_n 3, 1) := by decide +kernel
theorem dX6_duel_42 : decode cX6_duel 42 = .ok (.bipush 10, 2) := by decide +kernel
theorem dX6_duel_44 : decode cX6_duel 44 = .ok (.imul, 1) := by decide +kernel
theorem dX6_duel_45 : decode cX6_duel 45 = .ok (.istore_n 3, 1) := by decide +kernel
theorem dX6_duel_46 : decode cX6_duel 46 = .ok (.iinc 4 1, 3) := by decide +kernel
theorem dX6_duel_49 : decode cX6_duel 49 = .ok (.goto (-16), 3) := by decide +kernel
theorem dX6_duel_52 : decode cX6_duel 52 = .ok (.iconst 0, 1) := by decide +kernel
theorem dX6_duel_53 : decode cX6_duel 53 = .ok (.istore 4, 2) := by decide +kernel
theorem dX6_duel_55 : decode cX6_duel 55 = .ok (.iload 4, 2) := by decide +kernel
theorem dX6_duel_57 : decode cX6_duel 57 = .ok (.iload_n 3, 1) := by decide +kernel
theorem dX6_duel_58 : decode cX6_duel 58 = .ok (.if_icmp .ge 26, 3) := by decide +kernel
theorem dX6_duel_61 : decode cX6_duel 61 = .ok (.aload_n 0, 1) := by decide +kernel
theorem dX6_duel_62 : decode cX6_duel 62 = .ok (.getfield 51, 3) := by decide +kernel
theorem dX6_duel_65 : decode cX6_duel 65 = .ok (.iload 4, 2) := by decide +kernel
theorem dX6_duel_67 : decode cX6_duel 67 = .ok (.aload_n 0, 1) := by decide +kernel
theorem dX6_duel_68 : decode cX6_duel 68 = .ok (.iload 4, 2) := by decide +kernel
theorem dX6_duel_70 : decode cX6_duel 70 = .ok (.iconst 2, 1) := by decide +kernel
theorem dX6_duel_71 : decode cX6_duel 71 = .ok (.iload_n 2, 1) := by decide +kernel
theorem dX6_duel_72 : decode cX6_duel 72 = .ok (.imul, 1) := by decide +kernel
theorem dX6_duel_73 : decode cX6_duel 73 = .ok (.iload_n 1, 1) := by decide +kernel
theorem dX6_duel_74 : decode cX6_duel 74 = .ok (.invokevirtual 178, 3) := by decide +kernel
theorem dX6_duel_77 : decode cX6_duel 77 = .ok (.iastore, 1) := by decide +kernel
theorem dX6_duel_78 : decode cX6_duel 78 = .ok (.iinc 4 1, 3) := by decide +kernel
theorem dX6_duel_81 : decode cX6_duel 81 = .ok (.goto (-26), 3) := by decide +kernel
theorem dX6_duel_84 : decode cX6_duel 84 = .ok (.iconst 2, 1) := by decide +kernel
theorem dX6_duel_85 : decode cX6_duel 85 = .ok (.iload_n 2, 1) := by decide +kernel
theorem dX6_duel_86 : decode cX6_duel 86 = .ok (.imul, 1) := by decide +kernel
theorem dX6_duel_87 : decode cX6_duel 87 = .ok (.iconst 1, 1) := by decide +kernel
theorem dX6_duel_88 : decode cX6_duel 88 = .ok (.isub, 1) := by decide +kernel
theorem dX6_duel_89 : decode cX6_duel 89 = .ok (.istore 4, 2) := by decide +kernel
theorem dX6_duel_91 : decode cX6_duel 91 = .ok (.iload 4, 2) := by decide +kernel
theorem dX6_duel_93 : decode cX6_duel 93 = .ok (.ifCond .lt 131, 3) := by decide +kernel
theorem dX6_duel_96 : decode cX6_duel 96 = .ok (.iload_n 3, 1) := by decide +kernel
theorem dX6_duel_97 : decode cX6_duel 97 = .ok (.bipush 10, 2) := by decide +kernel
theorem dX6_duel_99 : decode cX6_duel 99 = .ok (.idiv, 1) := by decide +kernel
theorem dX6_duel_100 : decode cX6_duel 100 = .ok (.istore_n 3, 1) := by decide +kernel
theorem dX6_duel_101 : decode cX6_duel 101 = .ok (.iconst 0, 1) := by decide +kernel
theorem dX6_duel_102 : decode cX6_duel 102 = .ok (.istore 5, 2) := by decide +kernel
theorem dX6_duel_104 : decode cX6_duel 104 = .ok (.iload 5, 2) := by decide +kernel
theorem dX6_duel_106 : decode cX6_duel 106 = .ok (.iload_n 3, 1) := by decide +kernel
theorem dX6_duel_107 : decode cX6_duel 107 = .ok (.if_icmp .ge 111, 3) := by decide +kernel
theorem dX6_duel_110 : decode cX6_duel 110 = .ok (.aload_n 0, 1) := by decide +kernel
theorem dX6_duel_111 : decode cX6_duel 111 = .ok (.getfield 51, 3) := by decide +kernel
theorem dX6_duel_114 : decode cX6_duel 114 = .ok (.bipush 10, 2) := by decide +kernel
theorem dX6_duel_116 : decode cX6_duel 116 = .ok (.iload 5, 2) := by decide +kernel
theorem dX6_duel_118 : decode cX6_duel 118 = .ok (.imul, 1) := by decide +kernel
theorem dX6_duel_119 : decode cX6_duel 119 = .ok (.iaload, 1) := by decide +kernel
theorem dX6_duel_120 : decode cX6_duel 120 = .ok (.istore 6, 2) := by decide +kernel
theorem dX6_duel_122 : decode cX6_duel 122 = .ok (.iconst 1, 1) := by decide +kernel
theorem dX6_duel_123 : decode cX6_duel 123 = .ok (.istore 7, 2) := by decide +kernel
theorem dX6_duel_125 : decode cX6_duel 125 = .ok (.iload 7, 2) := by decide +kernel
theorem dX6_duel_127 : decode cX6_duel 127 = .ok (.bipush 10, 2) := by decide +kernel
theorem dX6_duel_129 : decode cX6_duel 129 = .ok (.if_icmp .ge 74, 3) := by decide +kernel
theorem dX6_duel_132 : decode cX6_duel 132 = .ok (.aload_n 0, 1) := by decide +kernel
theorem dX6_duel_133 : decode cX6_duel 133 = .ok (.getfield 51, 3) := by decide +kernel
theorem dX6_duel_136 : decode cX6_duel 136 = .ok (.bipush 10, 2) := by decide +kernel
theorem dX6_duel_138 : decode cX6_duel 138 = .ok (.iload 5, 2) := by decide +kernel
theorem dX6_duel_140 : decode cX6_duel 140 = .ok (.imul, 1) := by decide +kernel
theorem dX6_duel_141 : decode cX6_duel 141 = .ok (.iload 7, 2) := by decide +kernel
theorem dX6_duel_143 : decode cX6_duel 143 = .ok (.iadd, 1) := by decide +kernel
theorem dX6_duel_144 : decode cX6_duel 144 = .ok (.iaload, 1) := by decide +kernel
theorem dX6_duel_145 : decode cX6_duel 145 = .ok (.istore 8, 2) := by decide +kernel
theorem dX6_duel_147 : decode cX6_duel 147 = .ok (.iload 4, 2) := by decide +kernel
theorem dX6_duel_149 : decode cX6_duel 149 = .ok (.iconst 2, 1) := by decide +kernel
theorem dX6_duel_150 : decode cX6_duel 150 = .ok (.irem, 1) := by decide +kernel
theorem dX6_duel_151 : decode cX6_duel 151 = .ok (.ifCond .ne 18, 3) := by decide +kernel
theorem dX6_duel_154 : decode cX6_duel 154 = .ok (.iload 8, 2) := by decide +kernel
theorem dX6_duel_156 : decode cX6_duel 156 = .ok (.iload 6, 2) := by decide +kernel
theorem dX6_duel_158 : decode cX6_duel 158 = .ok (.if_icmp .le 7, 3) := by decide +kernel
theorem dX6_duel_161 : decode cX6_duel 161 = .ok (.iconst 1, 1) := by decide +kernel
theorem dX6_duel_162 : decode cX6_duel 162 = .ok (.goto 19, 3) := by decide +kernel
theorem dX6_duel_165 : decode cX6_duel 165 = .ok (.iconst 0, 1) := by decide +kernel
theorem dX6_duel_166 : decode cX6_duel 166 = .ok (.goto 15, 3) := by decide +kernel
theorem dX6_duel_169 : decode cX6_duel 169 = .ok (.iload 8, 2) := by decide +kernel
theorem dX6_duel_171 : decode cX6_duel 171 = .ok (.iload 6, 2) := by decide +kernel
theorem dX6_duel_173 : decode cX6_duel 173 = .ok (.if_icmp .ge 7, 3) := by decide +kernel
theorem dX6_duel_176 : decode cX6_duel 176 = .ok (.iconst 1, 1) := by decide +kernel
theorem dX6_duel_177 : decode cX6_duel 177 = .ok (.goto 4, 3) := by decide +kernel
theorem dX6_duel_180 : decode cX6_duel 180 = .ok (.iconst 0, 1) := by decide +kernel
theorem dX6_duel_181 : decode cX6_duel 181 = .ok (.istore 9, 2) := by decide +kernel
theorem dX6_duel_183 : decode cX6_duel 183 = .ok (.iload 9, 2) := by decide +kernel
theorem dX6_duel_185 : decode cX6_duel 185 = .ok (.ifCond .eq 8, 3) := by decide +kernel
theorem dX6_duel_188 : decode cX6_duel 188 = .ok (.iload 8, 2) := by decide +kernel
theorem dX6_duel_190 : decode cX6_duel 190 = .ok (.goto 5, 3) := by decide +kernel
theorem dX6_duel_193 : decode cX6_duel 193 = .ok (.iload 6, 2) := by decide +kernel
theorem dX6_duel_195 : decode cX6_duel 195 = .ok (.istore 6, 2) := by decide +kernel
theorem dX6_duel_197 : decode cX6_duel 197 = .ok (.iinc 7 1, 3) := by decide +kernel
theorem dX6_duel_200 : decode cX6_duel 200 = .ok (.goto (-75), 3) := by decide +kernel
theorem dX6_duel_203 : decode cX6_duel 203 = .ok (.aload_n 0, 1) := by decide +kernel
theorem dX6_duel_204 : decode cX6_duel 204 = .ok (.getfield 51, 3) := by decide +kernel
theorem dX6_duel_207 : decode cX6_duel 207 = .ok (.iload 5, 2) := by decide +kernel
theorem dX6_duel_209 : decode cX6_duel 209 = .ok (.iload 6, 2) := by decide +kernel
theorem dX6_duel_211 : decode cX6_duel 211 = .ok (.iastore, 1) := by decide +kernel
theorem dX6_duel_212 : decode cX6_duel 212 = .ok (.iinc 5 1, 3) := by decide +kernel
theorem dX6_duel_215 : decode cX6_duel 215 = .ok (.goto (-111), 3) := by decide +kernel
theorem dX6_duel_218 : decode cX6_duel 218 = .ok (.iinc 4 (-1), 3) := by decide +kernel
theorem dX6_duel_221 : decode cX6_duel 221 = .ok (.goto (-130), 3) := by decide +kernel
theorem dX6_duel_224 : decode cX6_duel 224 = .ok (.aload_n 0, 1) := by decide +kernel
theorem dX6_duel_225 : decode cX6_duel 225 = .ok (.aload_n 0, 1) := by decide +kernel
theorem dX6_duel_226 : decode cX6_duel 226 = .ok (.getfield 51, 3) := by decide +kernel
theorem dX6_duel_229 : decode cX6_duel 229 = .ok (.iconst 0, 1) := by decide +kernel
theorem dX6_duel_230 : decode cX6_duel 230 = .ok (.iaload, 1) := by decide +kernel
theorem dX6_duel_231 : decode cX6_duel 231 = .ok (.invokevirtual 76, 3) := by decide +kernel
theorem dX6_duel_234 : decode cX6_duel 234 = .ok (.ireturn, 1) := by decide +kernel
theorem dX6_waysOf_0 : decode cX6_waysOf 0 = .ok (.iload_n 2, 1) := by decide +kernel
theorem dX6_waysOf_1 : decode cX6_waysOf 1 = .ok (.iload_n 1, 1) := by decide +kernel
theorem dX6_waysOf_2 : decode cX6_waysOf 2 = .ok (.iconst (-1), 1) := by decide +kernel
theorem dX6_waysOf_3 : decode cX6_waysOf 3 = .ok (.ixor, 1) := by decide +kernel
theorem dX6_waysOf_4 : decode cX6_waysOf 4 = .ok (.iand, 1) := by decide +kernel
theorem dX6_waysOf_5 : decode cX6_waysOf 5 = .ok (.ifCond .ne 7, 3) := by decide +kernel
theorem dX6_waysOf_8 : decode cX6_waysOf 8 = .ok (.lconst 1, 1) := by decide +kernel
theorem dX6_waysOf_9 : decode cX6_waysOf 9 = .ok (.goto 4, 3) := by decide +kernel
theorem dX6_waysOf_12 : decode cX6_waysOf 12 = .ok (.lconst 0, 1) := by decide +kernel
theorem dX6_waysOf_13 : decode cX6_waysOf 13 = .ok (.lstore 4, 2) := by decide +kernel
theorem dX6_waysOf_15 : decode cX6_waysOf 15 = .ok (.iconst 0, 1) := by decide +kernel
theorem dX6_waysOf_16 : decode cX6_waysOf 16 = .ok (.istore 6, 2) := by decide +kernel
theorem dX6_waysOf_18 : decode cX6_waysOf 18 = .ok (.iload 6, 2) := by decide +kernel
theorem dX6_waysOf_20 : decode cX6_waysOf 20 = .ok (.bipush 9, 2) := by decide +kernel
theorem dX6_waysOf_22 : decode cX6_waysOf 22 = .ok (.if_icmp .ge 47, 3) := by decide +kernel
theorem dX6_waysOf_25 : decode cX6_waysOf 25 = .ok (.lload 4, 2) := by decide +kernel
theorem dX6_waysOf_27 : decode cX6_waysOf 27 = .ok (.iload_n 1, 1) := by decide +kernel
theorem dX6_waysOf_28 : decode cX6_waysOf 28 = .ok (.iload 6, 2) := by decide +kernel
theorem dX6_waysOf_30 : decode cX6_waysOf 30 = .ok (.invokestatic 104, 3) := by decide +kernel
theorem dX6_waysOf_33 : decode cX6_waysOf 33 = .ok (.ifCond .ne 7, 3) := by decide +kernel
theorem dX6_waysOf_36 : decode cX6_waysOf 36 = .ok (.lconst 1, 1) := by decide +kernel
theorem dX6_waysOf_37 : decode cX6_waysOf 37 = .ok (.goto 23, 3) := by decide +kernel
theorem dX6_waysOf_40 : decode cX6_waysOf 40 = .ok (.iload_n 2, 1) := by decide +kernel
theorem dX6_waysOf_41 : decode cX6_waysOf 41 = .ok (.iload 6, 2) := by decide +kernel
theorem dX6_waysOf_43 : decode cX6_waysOf 43 = .ok (.invokestatic 104, 3) := by decide +kernel
theorem dX6_waysOf_46 : decode cX6_waysOf 46 = .ok (.ifCond .eq 8, 3) := by decide +kernel
theorem dX6_waysOf_49 : decode cX6_waysOf 49 = .ok (.iload_n 3, 1) := by decide +kernel
theorem dX6_waysOf_50 : decode cX6_waysOf 50 = .ok (.i2l, 1) := by decide +kernel
theorem dX6_waysOf_51 : decode cX6_waysOf 51 = .ok (.goto 9, 3) := by decide +kernel
theorem dX6_waysOf_54 : decode cX6_waysOf 54 = .ok (.ldc2_w 182, 3) := by decide +kernel
theorem dX6_waysOf_57 : decode cX6_waysOf 57 = .ok (.iload_n 3, 1) := by decide +kernel
theorem dX6_waysOf_58 : decode cX6_waysOf 58 = .ok (.i2l, 1) := by decide +kernel
theorem dX6_waysOf_59 : decode cX6_waysOf 59 = .ok (.lsub, 1) := by decide +kernel
theorem dX6_waysOf_60 : decode cX6_waysOf 60 = .ok (.lmul, 1) := by decide +kernel
theorem dX6_waysOf_61 : decode cX6_waysOf 61 = .ok (.lstore 4, 2) := by decide +kernel
theorem dX6_waysOf_63 : decode cX6_waysOf 63 = .ok (.iinc 6 1, 3) := by decide +kernel
theorem dX6_waysOf_66 : decode cX6_waysOf 66 = .ok (.goto (-48), 3) := by decide +kernel
theorem dX6_waysOf_69 : decode cX6_waysOf 69 = .ok (.lload 4, 2) := by decide +kernel
theorem dX6_waysOf_71 : decode cX6_waysOf 71 = .ok (.lreturn, 1) := by decide +kernel
theorem dX6_allWays_0 : decode cX6_allWays 0 = .ok (.lconst 1, 1) := by decide +kernel
theorem dX6_allWays_1 : decode cX6_allWays 1 = .ok (.lstore_n 2, 1) := by decide +kernel
theorem dX6_allWays_2 : decode cX6_allWays 2 = .ok (.iconst 0, 1) := by decide +kernel
theorem dX6_allWays_3 : decode cX6_allWays 3 = .ok (.istore 4, 2) := by decide +kernel
theorem dX6_allWays_5 : decode cX6_allWays 5 = .ok (.iload 4, 2) := by decide +kernel
theorem dX6_allWays_7 : decode cX6_allWays 7 = .ok (.iload_n 1, 1) := by decide +kernel
theorem dX6_allWays_8 : decode cX6_allWays 8 = .ok (.invokestatic 135, 3) := by decide +kernel
theorem dX6_allWays_11 : decode cX6_allWays 11 = .ok (.if_icmp .ge 15, 3) := by decide +kernel
theorem dX6_allWays_14 : decode cX6_allWays 14 = .ok (.lload_n 2, 1) := by decide +kernel
theorem dX6_allWays_15 : decode cX6_allWays 15 = .ok (.ldc2_w 182, 3) := by decide +kernel
theorem dX6_allWays_18 : decode cX6_allWays 18 = .ok (.lmul, 1) := by decide +kernel
theorem dX6_allWays_19 : decode cX6_allWays 19 = .ok (.lstore_n 2, 1) := by decide +kernel
theorem dX6_allWays_20 : decode cX6_allWays 20 = .ok (.iinc 4 1, 3) := by decide +kernel
theorem dX6_allWays_23 : decode cX6_allWays 23 = .ok (.goto (-18), 3) := by decide +kernel
theorem dX6_allWays_26 : decode cX6_allWays 26 = .ok (.lload_n 2, 1) := by decide +kernel
theorem dX6_allWays_27 : decode cX6_allWays 27 = .ok (.lreturn, 1) := by decide +kernel
theorem dX6_shownBut_0 : decode cX6_shownBut 0 = .ok (.aload_n 0, 1) := by decide +kernel
theorem dX6_shownBut_1 : decode cX6_shownBut 1 = .ok (.invokevirtual 151, 3) := by decide +kernel
theorem dX6_shownBut_4 : decode cX6_shownBut 4 = .ok (.aload_n 0, 1) := by decide +kernel
theorem dX6_shownBut_5 : decode cX6_shownBut 5 = .ok (.aload_n 0, 1) := by decide +kernel
theorem dX6_shownBut_6 : decode cX6_shownBut 6 = .ok (.getfield 48, 3) := by decide +kernel
theorem dX6_shownBut_9 : decode cX6_shownBut 9 = .ok (.iconst 0, 1) := by decide +kernel
theorem dX6_shownBut_10 : decode cX6_shownBut 10 = .ok (.iload_n 1, 1) := by decide +kernel
theorem dX6_shownBut_11 : decode cX6_shownBut 11 = .ok (.iload_n 2, 1) := by decide +kernel
theorem dX6_shownBut_12 : decode cX6_shownBut 12 = .ok (.invokevirtual 144, 3) := by decide +kernel
theorem dX6_shownBut_15 : decode cX6_shownBut 15 = .ok (.aload_n 0, 1) := by decide +kernel
theorem dX6_shownBut_16 : decode cX6_shownBut 16 = .ok (.aload_n 0, 1) := by decide +kernel
theorem dX6_shownBut_17 : decode cX6_shownBut 17 = .ok (.getfield 48, 3) := by decide +kernel
theorem dX6_shownBut_20 : decode cX6_shownBut 20 = .ok (.iconst 0, 1) := by decide +kernel
theorem dX6_shownBut_21 : decode cX6_shownBut 21 = .ok (.invokevirtual 110, 3) := by decide +kernel
theorem dX6_shownBut_24 : decode cX6_shownBut 24 = .ok (.ireturn, 1) := by decide +kernel
theorem dX6_odds_0 : decode cX6_odds 0 = .ok (.aload_n 0, 1) := by decide +kernel
theorem dX6_odds_1 : decode cX6_odds 1 = .ok (.getfield 94, 3) := by decide +kernel
theorem dX6_odds_4 : decode cX6_odds 4 = .ok (.ifCond .ne 6, 3) := by decide +kernel
theorem dX6_odds_7 : decode cX6_odds 7 = .ok (.bipush (-4), 2) := by decide +kernel
theorem dX6_odds_9 : decode cX6_odds 9 = .ok (.ireturn, 1) := by decide +kernel
theorem dX6_odds_10 : decode cX6_odds 10 = .ok (.iload_n 1, 1) := by decide +kernel
theorem dX6_odds_11 : decode cX6_odds 11 = .ok (.invokestatic 138, 3) := by decide +kernel
theorem dX6_odds_14 : decode cX6_odds 14 = .ok (.ifCond .eq 20, 3) := by decide +kernel
theorem dX6_odds_17 : decode cX6_odds 17 = .ok (.iload_n 2, 1) := by decide +kernel
theorem dX6_odds_18 : decode cX6_odds 18 = .ok (.invokestatic 157, 3) := by decide +kernel
theorem dX6_odds_21 : decode cX6_odds 21 = .ok (.ifCond .eq 13, 3) := by decide +kernel
theorem dX6_odds_24 : decode cX6_odds 24 = .ok (.iload_n 3, 1) := by decide +kernel
theorem dX6_odds_25 : decode cX6_odds 25 = .ok (.iconst 0, 1) := by decide +kernel
theorem dX6_odds_26 : decode cX6_odds 26 = .ok (.bipush 12, 2) := by decide +kernel
theorem dX6_odds_28 : decode cX6_odds 28 = .ok (.invokestatic 64, 3) := by decide +kernel
theorem dX6_odds_31 : decode cX6_odds 31 = .ok (.ifCond .ne 5, 3) := by decide +kernel
theorem dX6_odds_34 : decode cX6_odds 34 = .ok (.iconst (-1), 1) := by decide +kernel
theorem dX6_odds_35 : decode cX6_odds 35 = .ok (.ireturn, 1) := by decide +kernel
theorem dX6_odds_36 : decode cX6_odds 36 = .ok (.iload_n 1, 1) := by decide +kernel
theorem dX6_odds_37 : decode cX6_odds 37 = .ok (.invokestatic 125, 3) := by decide +kernel
theorem dX6_odds_40 : decode cX6_odds 40 = .ok (.aload_n 0, 1) := by decide +kernel
theorem dX6_odds_41 : decode cX6_odds 41 = .ok (.bipush 10, 2) := by decide +kernel
theorem dX6_odds_43 : decode cX6_odds 43 = .ok (.invokevirtual 118, 3) := by decide +kernel
theorem dX6_odds_46 : decode cX6_odds 46 = .ok (.iconst (-1), 1) := by decide +kernel
theorem dX6_odds_47 : decode cX6_odds 47 = .ok (.ixor, 1) := by decide +kernel
theorem dX6_odds_48 : decode cX6_odds 48 = .ok (.iand, 1) := by decide +kernel
theorem dX6_odds_49 : decode cX6_odds 49 = .ok (.istore 4, 2) := by decide +kernel
theorem dX6_odds_51 : decode cX6_odds 51 = .ok (.lconst 0, 1) := by decide +kernel
theorem dX6_odds_52 : decode cX6_odds 52 = .ok (.lstore 5, 2) := by decide +kernel
theorem dX6_odds_54 : decode cX6_odds 54 = .ok (.iconst 0, 1) := by decide +kernel
theorem dX6_odds_55 : decode cX6_odds 55 = .ok (.istore 7, 2) := by decide +kernel
theorem dX6_odds_57 : decode cX6_odds 57 = .ok (.iload 7, 2) := by decide +kernel
theorem dX6_odds_59 : decode cX6_odds 59 = .ok (.sipush 512, 3) := by decide +kernel
theorem dX6_odds_62 : decode cX6_odds 62 = .ok (.if_icmp .ge 49, 3) := by decide +kernel
theorem dX6_odds_65 : decode cX6_odds 65 = .ok (.aload_n 0, 1) := by decide +kernel
theorem dX6_odds_66 : decode cX6_odds 66 = .ok (.iload 4, 2) := by decide +kernel
theorem dX6_odds_68 : decode cX6_odds 68 = .ok (.iload 7, 2) := by decide +kernel
theorem dX6_odds_70 : decode cX6_odds 70 = .ok (.iload_n 3, 1) := by decide +kernel
theorem dX6_odds_71 : decode cX6_odds 71 = .ok (.invokevirtual 184, 3) := by decide +kernel
theorem dX6_odds_74 : decode cX6_odds 74 = .ok (.lstore 8, 2) := by decide +kernel
theorem dX6_odds_76 : decode cX6_odds 76 = .ok (.lload 5, 2) := by decide +kernel
theorem dX6_odds_78 : decode cX6_odds 78 = .ok (.lload 8, 2) := by decide +kernel
theorem dX6_odds_80 : decode cX6_odds 80 = .ok (.lconst 0, 1) := by decide +kernel
theorem dX6_odds_81 : decode cX6_odds 81 = .ok (.lcmp, 1) := by decide +kernel
theorem dX6_odds_82 : decode cX6_odds 82 = .ok (.ifCond .le 19, 3) := by decide +kernel
theorem dX6_odds_85 : decode cX6_odds 85 = .ok (.aload_n 0, 1) := by decide +kernel
theorem dX6_odds_86 : decode cX6_odds 86 = .ok (.iload_n 1, 1) := by decide +kernel
theorem dX6_odds_87 : decode cX6_odds 87 = .ok (.iload 7, 2) := by decide +kernel
theorem dX6_odds_89 : decode cX6_odds 89 = .ok (.invokevirtual 188, 3) := by decide +kernel
theorem dX6_odds_92 : decode cX6_odds 92 = .ok (.iload_n 2, 1) := by decide +kernel
theorem dX6_odds_93 : decode cX6_odds 93 = .ok (.if_icmp .ne 8, 3) := by decide +kernel
theorem dX6_odds_96 : decode cX6_odds 96 = .ok (.lload 8, 2) := by decide +kernel
theorem dX6_odds_98 : decode cX6_odds 98 = .ok (.goto 4, 3) := by decide +kernel
theorem dX6_odds_101 : decode cX6_odds 101 = .ok (.lconst 0, 1) := by decide +kernel
theorem dX6_odds_102 : decode cX6_odds 102 = .ok (.ladd, 1) := by decide +kernel
theorem dX6_odds_103 : decode cX6_odds 103 = .ok (.lstore 5, 2) := by decide +kernel
theorem dX6_odds_105 : decode cX6_odds 105 = .ok (.iinc 7 1, 3) := by decide +kernel
theorem dX6_odds_108 : decode cX6_odds 108 = .ok (.goto (-51), 3) := by decide +kernel
theorem dX6_odds_111 : decode cX6_odds 111 = .ok (.aload_n 0, 1) := by decide +kernel
theorem dX6_odds_112 : decode cX6_odds 112 = .ok (.lload 5, 2) := by decide +kernel
theorem dX6_odds_114 : decode cX6_odds 114 = .ok (.aload_n 0, 1) := by decide +kernel
theorem dX6_odds_115 : decode cX6_odds 115 = .ok (.iload 4, 2) := by decide +kernel
theorem dX6_odds_117 : decode cX6_odds 117 = .ok (.invokevirtual 191, 3) := by decide +kernel
theorem dX6_odds_120 : decode cX6_odds 120 = .ok (.invokevirtual 195, 3) := by decide +kernel
theorem dX6_odds_123 : decode cX6_odds 123 = .ok (.ireturn, 1) := by decide +kernel
theorem dX6_mid_0 : decode cX6_mid 0 = .ok (.aload_n 0, 1) := by decide +kernel
theorem dX6_mid_1 : decode cX6_mid 1 = .ok (.getfield 94, 3) := by decide +kernel
theorem dX6_mid_4 : decode cX6_mid 4 = .ok (.ifCond .ne 6, 3) := by decide +kernel
theorem dX6_mid_7 : decode cX6_mid 7 = .ok (.bipush (-4), 2) := by decide +kernel
theorem dX6_mid_9 : decode cX6_mid 9 = .ok (.ireturn, 1) := by decide +kernel
theorem dX6_mid_10 : decode cX6_mid 10 = .ok (.iload_n 1, 1) := by decide +kernel
theorem dX6_mid_11 : decode cX6_mid 11 = .ok (.invokestatic 138, 3) := by decide +kernel
theorem dX6_mid_14 : decode cX6_mid 14 = .ok (.ifCond .eq 13, 3) := by decide +kernel
theorem dX6_mid_17 : decode cX6_mid 17 = .ok (.iload_n 2, 1) := by decide +kernel
theorem dX6_mid_18 : decode cX6_mid 18 = .ok (.iconst 0, 1) := by decide +kernel
theorem dX6_mid_19 : decode cX6_mid 19 = .ok (.bipush 12, 2) := by decide +kernel
theorem dX6_mid_21 : decode cX6_mid 21 = .ok (.invokestatic 64, 3) := by decide +kernel
theorem dX6_mid_24 : decode cX6_mid 24 = .ok (.ifCond .ne 5, 3) := by decide +kernel
theorem dX6_mid_27 : decode cX6_mid 27 = .ok (.iconst (-1), 1) := by decide +kernel
theorem dX6_mid_28 : decode cX6_mid 28 = .ok (.ireturn, 1) := by decide +kernel
theorem dX6_mid_29 : decode cX6_mid 29 = .ok (.iload_n 1, 1) := by decide +kernel
theorem dX6_mid_30 : decode cX6_mid 30 = .ok (.invokestatic 125, 3) := by decide +kernel
theorem dX6_mid_33 : decode cX6_mid 33 = .ok (.aload_n 0, 1) := by decide +kernel
theorem dX6_mid_34 : decode cX6_mid 34 = .ok (.bipush 10, 2) := by decide +kernel
theorem dX6_mid_36 : decode cX6_mid 36 = .ok (.invokevirtual 118, 3) := by decide +kernel
theorem dX6_mid_39 : decode cX6_mid 39 = .ok (.iconst (-1), 1) := by decide +kernel
theorem dX6_mid_40 : decode cX6_mid 40 = .ok (.ixor, 1) := by decide +kernel
theorem dX6_mid_41 : decode cX6_mid 41 = .ok (.iand, 1) := by decide +kernel
theorem dX6_mid_42 : decode cX6_mid 42 = .ok (.istore_n 3, 1) := by decide +kernel
theorem dX6_mid_43 : decode cX6_mid 43 = .ok (.lconst 0, 1) := by decide +kernel
theorem dX6_mid_44 : decode cX6_mid 44 = .ok (.lstore 4, 2) := by decide +kernel
theorem dX6_mid_46 : decode cX6_mid 46 = .ok (.iconst 0, 1) := by decide +kernel
theorem dX6_mid_47 : decode cX6_mid 47 = .ok (.istore 6, 2) := by decide +kernel
theorem dX6_mid_49 : decode cX6_mid 49 = .ok (.iload 6, 2) := by decide +kernel
theorem dX6_mid_51 : decode cX6_mid 51 = .ok (.sipush 512, 3) := by decide +kernel
theorem dX6_mid_54 : decode cX6_mid 54 = .ok (.if_icmp .ge 49, 3) := by decide +kernel
theorem dX6_mid_57 : decode cX6_mid 57 = .ok (.aload_n 0, 1) := by decide +kernel
theorem dX6_mid_58 : decode cX6_mid 58 = .ok (.iload_n 3, 1) := by decide +kernel
theorem dX6_mid_59 : decode cX6_mid 59 = .ok (.iload 6, 2) := by decide +kernel
theorem dX6_mid_61 : decode cX6_mid 61 = .ok (.iload_n 2, 1) := by decide +kernel
theorem dX6_mid_62 : decode cX6_mid 62 = .ok (.invokevirtual 184, 3) := by decide +kernel
theorem dX6_mid_65 : decode cX6_mid 65 = .ok (.lstore 7, 2) := by decide +kernel
theorem dX6_mid_67 : decode cX6_mid 67 = .ok (.lload 4, 2) := by decide +kernel
theorem dX6_mid_69 : decode cX6_mid 69 = .ok (.lload 7, 2) := by decide +kernel
theorem dX6_mid_71 : decode cX6_mid 71 = .ok (.lconst 0, 1) := by decide +kernel
theorem dX6_mid_72 : decode cX6_mid 72 = .ok (.lcmp, 1) := by decide +kernel
theorem dX6_mid_73 : decode cX6_mid 73 = .ok (.ifCond .le 20, 3) := by decide +kernel
theorem dX6_mid_76 : decode cX6_mid 76 = .ok (.lload 7, 2) := by decide +kernel
theorem dX6_mid_78 : decode cX6_mid 78 = .ok (.aload_n 0, 1) := by decide +kernel
theorem dX6_mid_79 : decode cX6_mid 79 = .ok (.iload_n 1, 1) := by decide +kernel
theorem dX6_mid_80 : decode cX6_mid 80 = .ok (.iload 6, 2) := by decide +kernel
theorem dX6_mid_82 : decode cX6_mid 82 = .ok (.invokevirtual 188, 3) := by decide +kernel
theorem dX6_mid_85 : decode cX6_mid 85 = .ok (.invokestatic 135, 3) := by decide +kernel
theorem dX6_mid_88 : decode cX6_mid 88 = .ok (.i2l, 1) := by decide +kernel
theorem dX6_mid_89 : decode cX6_mid 89 = .ok (.lmul, 1) := by decide +kernel
theorem dX6_mid_90 : decode cX6_mid 90 = .ok (.goto 4, 3) := by decide +kernel
theorem dX6_mid_93 : decode cX6_mid 93 = .ok (.lconst 0, 1) := by decide +kernel
theorem dX6_mid_94 : decode cX6_mid 94 = .ok (.ladd, 1) := by decide +kernel
theorem dX6_mid_95 : decode cX6_mid 95 = .ok (.lstore 4, 2) := by decide +kernel
theorem dX6_mid_97 : decode cX6_mid 97 = .ok (.iinc 6 1, 3) := by decide +kernel
theorem dX6_mid_100 : decode cX6_mid 100 = .ok (.goto (-51), 3) := by decide +kernel
theorem dX6_mid_103 : decode cX6_mid 103 = .ok (.aload_n 0, 1) := by decide +kernel
theorem dX6_mid_104 : decode cX6_mid 104 = .ok (.lload 4, 2) := by decide +kernel
theorem dX6_mid_106 : decode cX6_mid 106 = .ok (.aload_n 0, 1) := by decide +kernel
theorem dX6_mid_107 : decode cX6_mid 107 = .ok (.iload_n 3, 1) := by decide +kernel
theorem dX6_mid_108 : decode cX6_mid 108 = .ok (.invokevirtual 191, 3) := by decide +kernel
theorem dX6_mid_111 : decode cX6_mid 111 = .ok (.invokevirtual 195, 3) := by decide +kernel
theorem dX6_mid_114 : decode cX6_mid 114 = .ok (.ireturn, 1) := by decide +kernel
theorem dX6_lot_0 : decode cX6_lot 0 = .ok (.bipush 11, 2) := by decide +kernel
theorem dX6_lot_2 : decode cX6_lot 2 = .ok (.aload_n 0, 1) := by decide +kernel
theorem dX6_lot_3 : decode cX6_lot 3 = .ok (.getfield 97, 3) := by decide +kernel
theorem dX6_lot_6 : decode cX6_lot 6 = .ok (.imul, 1) := by decide +kernel
theorem dX6_lot_7 : decode cX6_lot 7 = .ok (.istore_n 3, 1) := by decide +kernel
theorem dX6_lot_8 : decode cX6_lot 8 = .ok (.iload_n 1, 1) := by decide +kernel
theorem dX6_lot_9 : decode cX6_lot 9 = .ok (.bipush 6, 2) := by decide +kernel
theorem dX6_lot_11 : decode cX6_lot 11 = .ok (.if_icmp .ge 17, 3) := by decide +kernel
theorem dX6_lot_14 : decode cX6_lot 14 = .ok (.aload_n 0, 1) := by decide +kernel
theorem dX6_lot_15 : decode cX6_lot 15 = .ok (.aload_n 0, 1) := by decide +kernel
theorem dX6_lot_16 : decode cX6_lot 16 = .ok (.getfield 39, 3) := by decide +kernel
theorem dX6_lot_19 : decode cX6_lot 19 = .ok (.iload_n 3, 1) := by decide +kernel
theorem dX6_lot_20 : decode cX6_lot 20 = .ok (.iload_n 2, 1) := by decide +kernel
theorem dX6_lot_21 : decode cX6_lot 21 = .ok (.iconst 0, 1) := by decide +kernel
theorem dX6_lot_22 : decode cX6_lot 22 = .ok (.invokevirtual 144, 3) := by decide +kernel
theorem dX6_lot_25 : decode cX6_lot 25 = .ok (.goto 62, 3) := by decide +kernel
theorem dX6_lot_28 : decode cX6_lot 28 = .ok (.iload_n 1, 1) := by decide +kernel
theorem dX6_lot_29 : decode cX6_lot 29 = .ok (.bipush 6, 2) := by decide +kernel
theorem dX6_lot_31 : decode cX6_lot 31 = .ok (.if_icmp .ne 34, 3) := by decide +kernel
theorem dX6_lot_34 : decode cX6_lot 34 = .ok (.aload_n 0, 1) := by decide +kernel
theorem dX6_lot_35 : decode cX6_lot 35 = .ok (.getfield 39, 3) := by decide +kernel
theorem dX6_lot_38 : decode cX6_lot 38 = .ok (.iload_n 3, 1) := by decide +kernel
theorem dX6_lot_39 : decode cX6_lot 39 = .ok (.iload_n 2, 1) := by decide +kernel
theorem dX6_lot_40 : decode cX6_lot 40 = .ok (.iadd, 1) := by decide +kernel
theorem dX6_lot_41 : decode cX6_lot 41 = .ok (.aload_n 0, 1) := by decide +kernel
theorem dX6_lot_42 : decode cX6_lot 42 = .ok (.getfield 39, 3) := by decide +kernel
theorem dX6_lot_45 : decode cX6_lot 45 = .ok (.iload_n 3, 1) := by decide +kernel
theorem dX6_lot_46 : decode cX6_lot 46 = .ok (.iload_n 2, 1) := by decide +kernel
theorem dX6_lot_47 : decode cX6_lot 47 = .ok (.iadd, 1) := by decide +kernel
theorem dX6_lot_48 : decode cX6_lot 48 = .ok (.iaload, 1) := by decide +kernel
theorem dX6_lot_49 : decode cX6_lot 49 = .ok (.iconst 1, 1) := by decide +kernel
theorem dX6_lot_50 : decode cX6_lot 50 = .ok (.iadd, 1) := by decide +kernel
theorem dX6_lot_51 : decode cX6_lot 51 = .ok (.aload_n 0, 1) := by decide +kernel
theorem dX6_lot_52 : decode cX6_lot 52 = .ok (.getfield 33, 3) := by decide +kernel
theorem dX6_lot_55 : decode cX6_lot 55 = .ok (.iload_n 2, 1) := by decide +kernel
theorem dX6_lot_56 : decode cX6_lot 56 = .ok (.iaload, 1) := by decide +kernel
theorem dX6_lot_57 : decode cX6_lot 57 = .ok (.invokestatic 88, 3) := by decide +kernel
theorem dX6_lot_60 : decode cX6_lot 60 = .ok (.irem, 1) := by decide +kernel
theorem dX6_lot_61 : decode cX6_lot 61 = .ok (.iastore, 1) := by decide +kernel
theorem dX6_lot_62 : decode cX6_lot 62 = .ok (.goto 25, 3) := by decide +kernel
theorem dX6_lot_65 : decode cX6_lot 65 = .ok (.aload_n 0, 1) := by decide +kernel
theorem dX6_lot_66 : decode cX6_lot 66 = .ok (.getfield 39, 3) := by decide +kernel
theorem dX6_lot_69 : decode cX6_lot 69 = .ok (.iload_n 3, 1) := by decide +kernel
theorem dX6_lot_70 : decode cX6_lot 70 = .ok (.bipush 10, 2) := by decide +kernel
theorem dX6_lot_72 : decode cX6_lot 72 = .ok (.iadd, 1) := by decide +kernel
theorem dX6_lot_73 : decode cX6_lot 73 = .ok (.aload_n 0, 1) := by decide +kernel
theorem dX6_lot_74 : decode cX6_lot 74 = .ok (.getfield 39, 3) := by decide +kernel
theorem dX6_lot_77 : decode cX6_lot 77 = .ok (.iload_n 3, 1) := by decide +kernel
theorem dX6_lot_78 : decode cX6_lot 78 = .ok (.bipush 10, 2) := by decide +kernel
theorem dX6_lot_80 : decode cX6_lot 80 = .ok (.iadd, 1) := by decide +kernel
theorem dX6_lot_81 : decode cX6_lot 81 = .ok (.iaload, 1) := by decide +kernel
theorem dX6_lot_82 : decode cX6_lot 82 = .ok (.iload_n 2, 1) := by decide +kernel
theorem dX6_lot_83 : decode cX6_lot 83 = .ok (.invokestatic 148, 3) := by decide +kernel
theorem dX6_lot_86 : decode cX6_lot 86 = .ok (.iastore, 1) := by decide +kernel
theorem dX6_lot_87 : decode cX6_lot 87 = .ok (.return_, 1) := by decide +kernel
theorem dX6_lots_0 : decode cX6_lots 0 = .ok (.aload_n 0, 1) := by decide +kernel
theorem dX6_lots_1 : decode cX6_lots 1 = .ok (.getfield 94, 3) := by decide +kernel
theorem dX6_lots_4 : decode cX6_lots 4 = .ok (.ifCond .ne 6, 3) := by decide +kernel
theorem dX6_lots_7 : decode cX6_lots 7 = .ok (.bipush (-4), 2) := by decide +kernel
theorem dX6_lots_9 : decode cX6_lots 9 = .ok (.ireturn, 1) := by decide +kernel
theorem dX6_lots_10 : decode cX6_lots 10 = .ok (.iload_n 1, 1) := by decide +kernel
theorem dX6_lots_11 : decode cX6_lots 11 = .ok (.iconst 1, 1) := by decide +kernel
theorem dX6_lots_12 : decode cX6_lots 12 = .ok (.bipush 20, 2) := by decide +kernel
theorem dX6_lots_14 : decode cX6_lots 14 = .ok (.invokestatic 64, 3) := by decide +kernel
theorem dX6_lots_17 : decode cX6_lots 17 = .ok (.ifCond .eq 13, 3) := by decide +kernel
theorem dX6_lots_20 : decode cX6_lots 20 = .ok (.iload_n 2, 1) := by decide +kernel
theorem dX6_lots_21 : decode cX6_lots 21 = .ok (.iconst 1, 1) := by decide +kernel
theorem dX6_lots_22 : decode cX6_lots 22 = .ok (.ldc 199, 2) := by decide +kernel
theorem dX6_lots_24 : decode cX6_lots 24 = .ok (.invokestatic 64, 3) := by decide +kernel
theorem dX6_lots_27 : decode cX6_lots 27 = .ok (.ifCond .ne 5, 3) := by decide +kernel
theorem dX6_lots_30 : decode cX6_lots 30 = .ok (.iconst (-1), 1) := by decide +kernel
theorem dX6_lots_31 : decode cX6_lots 31 = .ok (.ireturn, 1) := by decide +kernel
theorem dX6_lots_32 : decode cX6_lots 32 = .ok (.aload_n 0, 1) := by decide +kernel
theorem dX6_lots_33 : decode cX6_lots 33 = .ok (.getfield 97, 3) := by decide +kernel
theorem dX6_lots_36 : decode cX6_lots 36 = .ok (.iload_n 1, 1) := by decide +kernel
theorem dX6_lots_37 : decode cX6_lots 37 = .ok (.iadd, 1) := by decide +kernel
theorem dX6_lots_38 : decode cX6_lots 38 = .ok (.bipush 40, 2) := by decide +kernel
theorem dX6_lots_40 : decode cX6_lots 40 = .ok (.if_icmp .le 6, 3) := by decide +kernel
theorem dX6_lots_43 : decode cX6_lots 43 = .ok (.bipush (-2), 2) := by decide +kernel
theorem dX6_lots_45 : decode cX6_lots 45 = .ok (.ireturn, 1) := by decide +kernel
theorem dX6_lots_46 : decode cX6_lots 46 = .ok (.iload_n 2, 1) := by decide +kernel
theorem dX6_lots_47 : decode cX6_lots 47 = .ok (.i2l, 1) := by decide +kernel
theorem dX6_lots_48 : decode cX6_lots 48 = .ok (.lstore_n 3, 1) := by decide +kernel
theorem dX6_lots_49 : decode cX6_lots 49 = .ok (.iconst 0, 1) := by decide +kernel
theorem dX6_lots_50 : decode cX6_lots 50 = .ok (.istore 5, 2) := by decide +kernel
theorem dX6_lots_52 : decode cX6_lots 52 = .ok (.iload 5, 2) := by decide +kernel
theorem dX6_lots_54 : decode cX6_lots 54 = .ok (.iload_n 1, 1) := by decide +kernel
theorem dX6_lots_55 : decode cX6_lots 55 = .ok (.if_icmp .ge 43, 3) := by decide +kernel
theorem dX6_lots_58 : decode cX6_lots 58 = .ok (.lload_n 3, 1) := by decide +kernel
theorem dX6_lots_59 : decode cX6_lots 59 = .ok (.ldc2_w 200, 3) := by decide +kernel
theorem dX6_lots_62 : decode cX6_lots 62 = .ok (.lmul, 1) := by decide +kernel
theorem dX6_lots_63 : decode cX6_lots 63 = .ok (.ldc2_w 202, 3) := by decide +kernel
theorem dX6_lots_66 : decode cX6_lots 66 = .ok (.lrem, 1) := by decide +kernel
theorem dX6_lots_67 : decode cX6_lots 67 = .ok (.lstore_n 3, 1) := by decide +kernel
theorem dX6_lots_68 : decode cX6_lots 68 = .ok (.aload_n 0, 1) := by decide +kernel
theorem dX6_lots_69 : decode cX6_lots 69 = .ok (.invokevirtual 141, 3) := by decide +kernel
theorem dX6_lots_72 : decode cX6_lots 72 = .ok (.aload_n 0, 1) := by decide +kernel
theorem dX6_lots_73 : decode cX6_lots 73 = .ok (.lload_n 3, 1) := by decide +kernel
theorem dX6_lots_74 : decode cX6_lots 74 = .ok (.ldc2_w 204, 3) := by decide +kernel
theorem dX6_lots_77 : decode cX6_lots 77 = .ok (.ldiv, 1) := by decide +kernel
theorem dX6_lots_78 : decode cX6_lots 78 = .ok (.ldc2_w 206, 3) := by decide +kernel
theorem dX6_lots_81 : decode cX6_lots 81 = .ok (.lrem, 1) := by decide +kernel
theorem dX6_lots_82 : decode cX6_lots 82 = .ok (.l2i, 1) := by decide +kernel
theorem dX6_lots_83 : decode cX6_lots 83 = .ok (.lload_n 3, 1) := by decide +kernel
theorem dX6_lots_84 : decode cX6_lots 84 = .ok (.ldc2_w 208, 3) := by decide +kernel
theorem dX6_lots_87 : decode cX6_lots 87 = .ok (.lrem, 1) := by decide +kernel
theorem dX6_lots_88 : decode cX6_lots 88 = .ok (.l2i, 1) := by decide +kernel
theorem dX6_lots_89 : decode cX6_lots 89 = .ok (.invokevirtual 210, 3) := by decide +kernel
theorem dX6_lots_92 : decode cX6_lots 92 = .ok (.iinc 5 1, 3) := by decide +kernel
theorem dX6_lots_95 : decode cX6_lots 95 = .ok (.goto (-43), 3) := by decide +kernel
theorem dX6_lots_98 : decode cX6_lots 98 = .ok (.aload_n 0, 1) := by decide +kernel
theorem dX6_lots_99 : decode cX6_lots 99 = .ok (.invokevirtual 121, 3) := by decide +kernel
theorem dX6_lots_102 : decode cX6_lots 102 = .ok (.ireturn, 1) := by decide +kernel
theorem dX6_asked_0 : decode cX6_asked 0 = .ok (.aload_n 0, 1) := by decide +kernel
theorem dX6_asked_1 : decode cX6_asked 1 = .ok (.getfield 58, 3) := by decide +kernel
theorem dX6_asked_4 : decode cX6_asked 4 = .ok (.ireturn, 1) := by decide +kernel
theorem dX6_upper_0 : decode cX6_upper 0 = .ok (.aload_n 0, 1) := by decide +kernel
theorem dX6_upper_1 : decode cX6_upper 1 = .ok (.getfield 61, 3) := by decide +kernel
theorem dX6_upper_4 : decode cX6_upper 4 = .ok (.lreturn, 1) := by decide +kernel
theorem dX6_lower_0 : decode cX6_lower 0 = .ok (.aload_n 0, 1) := by decide +kernel
theorem dX6_lower_1 : decode cX6_lower 1 = .ok (.getfield 13, 3) := by decide +kernel
theorem dX6_lower_4 : decode cX6_lower 4 = .ok (.lreturn, 1) := by decide +kernel
theorem dX6_thereAre_0 : decode cX6_thereAre 0 = .ok (.iconst 0, 1) := by decide +kernel
theorem dX6_thereAre_1 : decode cX6_thereAre 1 = .ok (.istore_n 2, 1) := by decide +kernel
theorem dX6_thereAre_2 : decode cX6_thereAre 2 = .ok (.iconst 0, 1) := by decide +kernel
theorem dX6_thereAre_3 : decode cX6_thereAre 3 = .ok (.istore_n 3, 1) := by decide +kernel
theorem dX6_thereAre_4 : decode cX6_thereAre 4 = .ok (.iload_n 3, 1) := by decide +kernel
theorem dX6_thereAre_5 : decode cX6_thereAre 5 = .ok (.bipush 6, 2) := by decide +kernel
theorem dX6_thereAre_7 : decode cX6_thereAre 7 = .ok (.if_icmp .ge 106, 3) := by decide +kernel
theorem dX6_thereAre_10 : decode cX6_thereAre 10 = .ok (.iload_n 2, 1) := by decide +kernel
theorem dX6_thereAre_11 : decode cX6_thereAre 11 = .ok (.iload_n 1, 1) := by decide +kernel
theorem dX6_thereAre_12 : decode cX6_thereAre 12 = .ok (.bipush 8, 2) := by decide +kernel
theorem dX6_thereAre_14 : decode cX6_thereAre 14 = .ok (.if_icmp .ne 16, 3) := by decide +kernel
theorem dX6_thereAre_17 : decode cX6_thereAre 17 = .ok (.aload_n 0, 1) := by decide +kernel
theorem dX6_thereAre_18 : decode cX6_thereAre 18 = .ok (.getfield 17, 3) := by decide +kernel
theorem dX6_thereAre_21 : decode cX6_thereAre 21 = .ok (.iload_n 3, 1) := by decide +kernel
theorem dX6_thereAre_22 : decode cX6_thereAre 22 = .ok (.iaload, 1) := by decide +kernel
theorem dX6_thereAre_23 : decode cX6_thereAre 23 = .ok (.ifCond .lt 7, 3) := by decide +kernel
theorem dX6_thereAre_26 : decode cX6_thereAre 26 = .ok (.iconst 1, 1) := by decide +kernel
theorem dX6_thereAre_27 : decode cX6_thereAre 27 = .ok (.goto 4, 3) := by decide +kernel
theorem dX6_thereAre_30 : decode cX6_thereAre 30 = .ok (.iconst 0, 1) := by decide +kernel
theorem dX6_thereAre_31 : decode cX6_thereAre 31 = .ok (.iadd, 1) := by decide +kernel
theorem dX6_thereAre_32 : decode cX6_thereAre 32 = .ok (.istore_n 2, 1) := by decide +kernel
theorem dX6_thereAre_33 : decode cX6_thereAre 33 = .ok (.iload_n 2, 1) := by decide +kernel
theorem dX6_thereAre_34 : decode cX6_thereAre 34 = .ok (.iload_n 1, 1) := by decide +kernel
theorem dX6_thereAre_35 : decode cX6_thereAre 35 = .ok (.bipush 9, 2) := by decide +kernel
theorem dX6_thereAre_37 : decode cX6_thereAre 37 = .ok (.if_icmp .ne 30, 3) := by decide +kernel
theorem dX6_thereAre_40 : decode cX6_thereAre 40 = .ok (.iload_n 3, 1) := by decide +kernel
theorem dX6_thereAre_41 : decode cX6_thereAre 41 = .ok (.iconst 4, 1) := by decide +kernel
theorem dX6_thereAre_42 : decode cX6_thereAre 42 = .ok (.if_icmp .ge 25, 3) := by decide +kernel
theorem dX6_thereAre_45 : decode cX6_thereAre 45 = .ok (.aload_n 0, 1) := by decide +kernel
theorem dX6_thereAre_46 : decode cX6_thereAre 46 = .ok (.getfield 23, 3) := by decide +kernel
theorem dX6_thereAre_49 : decode cX6_thereAre 49 = .ok (.iload_n 3, 1) := by decide +kernel
theorem dX6_thereAre_50 : decode cX6_thereAre 50 = .ok (.iconst 4, 1) := by decide +kernel
theorem dX6_thereAre_51 : decode cX6_thereAre 51 = .ok (.if_icmp .ge 7, 3) := by decide +kernel
theorem dX6_thereAre_54 : decode cX6_thereAre 54 = .ok (.iload_n 3, 1) := by decide +kernel
theorem dX6_thereAre_55 : decode cX6_thereAre 55 = .ok (.goto 4, 3) := by decide +kernel
theorem dX6_thereAre_58 : decode cX6_thereAre 58 = .ok (.iconst 0, 1) := by decide +kernel
theorem dX6_thereAre_59 : decode cX6_thereAre 59 = .ok (.iaload, 1) := by decide +kernel
theorem dX6_thereAre_60 : decode cX6_thereAre 60 = .ok (.ifCond .lt 7, 3) := by decide +kernel
theorem dX6_thereAre_63 : decode cX6_thereAre 63 = .ok (.iconst 1, 1) := by decide +kernel
theorem dX6_thereAre_64 : decode cX6_thereAre 64 = .ok (.goto 4, 3) := by decide +kernel
theorem dX6_thereAre_67 : decode cX6_thereAre 67 = .ok (.iconst 0, 1) := by decide +kernel
theorem dX6_thereAre_68 : decode cX6_thereAre 68 = .ok (.iadd, 1) := by decide +kernel
theorem dX6_thereAre_69 : decode cX6_thereAre 69 = .ok (.istore_n 2, 1) := by decide +kernel
theorem dX6_thereAre_70 : decode cX6_thereAre 70 = .ok (.iload_n 2, 1) := by decide +kernel
theorem dX6_thereAre_71 : decode cX6_thereAre 71 = .ok (.iload_n 1, 1) := by decide +kernel
theorem dX6_thereAre_72 : decode cX6_thereAre 72 = .ok (.bipush 10, 2) := by decide +kernel
theorem dX6_thereAre_74 : decode cX6_thereAre 74 = .ok (.if_icmp .ne 30, 3) := by decide +kernel
theorem dX6_thereAre_77 : decode cX6_thereAre 77 = .ok (.iload_n 3, 1) := by decide +kernel
theorem dX6_thereAre_78 : decode cX6_thereAre 78 = .ok (.iconst 3, 1) := by decide +kernel
theorem dX6_thereAre_79 : decode cX6_thereAre 79 = .ok (.if_icmp .ge 25, 3) := by decide +kernel
theorem dX6_thereAre_82 : decode cX6_thereAre 82 = .ok (.aload_n 0, 1) := by decide +kernel
theorem dX6_thereAre_83 : decode cX6_thereAre 83 = .ok (.getfield 45, 3) := by decide +kernel
theorem dX6_thereAre_86 : decode cX6_thereAre 86 = .ok (.iload_n 3, 1) := by decide +kernel
theorem dX6_thereAre_87 : decode cX6_thereAre 87 = .ok (.iconst 3, 1) := by decide +kernel
theorem dX6_thereAre_88 : decode cX6_thereAre 88 = .ok (.if_icmp .ge 7, 3) := by decide +kernel
theorem dX6_thereAre_91 : decode cX6_thereAre 91 = .ok (.iload_n 3, 1) := by decide +kernel
theorem dX6_thereAre_92 : decode cX6_thereAre 92 = .ok (.goto 4, 3) := by decide +kernel
theorem dX6_thereAre_95 : decode cX6_thereAre 95 = .ok (.iconst 0, 1) := by decide +kernel
theorem dX6_thereAre_96 : decode cX6_thereAre 96 = .ok (.iaload, 1) := by decide +kernel
theorem dX6_thereAre_97 : decode cX6_thereAre 97 = .ok (.ifCond .lt 7, 3) := by decide +kernel
theorem dX6_thereAre_100 : decode cX6_thereAre 100 = .ok (.iconst 1, 1) := by decide +kernel
theorem dX6_thereAre_101 : decode cX6_thereAre 101 = .ok (.goto 4, 3) := by decide +kernel
theorem dX6_thereAre_104 : decode cX6_thereAre 104 = .ok (.iconst 0, 1) := by decide +kernel
theorem dX6_thereAre_105 : decode cX6_thereAre 105 = .ok (.iadd, 1) := by decide +kernel
theorem dX6_thereAre_106 : decode cX6_thereAre 106 = .ok (.istore_n 2, 1) := by decide +kernel
theorem dX6_thereAre_107 : decode cX6_thereAre 107 = .ok (.iinc 3 1, 3) := by decide +kernel
theorem dX6_thereAre_110 : decode cX6_thereAre 110 = .ok (.goto (-106), 3) := by decide +kernel
theorem dX6_thereAre_113 : decode cX6_thereAre 113 = .ok (.iload_n 2, 1) := by decide +kernel
theorem dX6_thereAre_114 : decode cX6_thereAre 114 = .ok (.ireturn, 1) := by decide +kernel
theorem dX6_sumOf_0 : decode cX6_sumOf 0 = .ok (.iconst 0, 1) := by decide +kernel
theorem dX6_sumOf_1 : decode cX6_sumOf 1 = .ok (.istore_n 2, 1) := by decide +kernel
theorem dX6_sumOf_2 : decode cX6_sumOf 2 = .ok (.iconst 0, 1) := by decide +kernel
theorem dX6_sumOf_3 : decode cX6_sumOf 3 = .ok (.istore_n 3, 1) := by decide +kernel
theorem dX6_sumOf_4 : decode cX6_sumOf 4 = .ok (.iload_n 3, 1) := by decide +kernel
theorem dX6_sumOf_5 : decode cX6_sumOf 5 = .ok (.aload_n 0, 1) := by decide +kernel
theorem dX6_sumOf_6 : decode cX6_sumOf 6 = .ok (.getfield 94, 3) := by decide +kernel
theorem dX6_sumOf_9 : decode cX6_sumOf 9 = .ok (.if_icmp .ge 76, 3) := by decide +kernel
theorem dX6_sumOf_12 : decode cX6_sumOf 12 = .ok (.iload_n 2, 1) := by decide +kernel
theorem dX6_sumOf_13 : decode cX6_sumOf 13 = .ok (.iload_n 1, 1) := by decide +kernel
theorem dX6_sumOf_14 : decode cX6_sumOf 14 = .ok (.iconst 5, 1) := by decide +kernel
theorem dX6_sumOf_15 : decode cX6_sumOf 15 = .ok (.if_icmp .ne 11, 3) := by decide +kernel
theorem dX6_sumOf_18 : decode cX6_sumOf 18 = .ok (.aload_n 0, 1) := by decide +kernel
theorem dX6_sumOf_19 : decode cX6_sumOf 19 = .ok (.iload_n 3, 1) := by decide +kernel
theorem dX6_sumOf_20 : decode cX6_sumOf 20 = .ok (.invokevirtual 118, 3) := by decide +kernel
theorem dX6_sumOf_23 : decode cX6_sumOf 23 = .ok (.goto 54, 3) := by decide +kernel
theorem dX6_sumOf_26 : decode cX6_sumOf 26 = .ok (.iload_n 1, 1) := by decide +kernel
theorem dX6_sumOf_27 : decode cX6_sumOf 27 = .ok (.bipush 6, 2) := by decide +kernel
theorem dX6_sumOf_29 : decode cX6_sumOf 29 = .ok (.if_icmp .ne 23, 3) := by decide +kernel
theorem dX6_sumOf_32 : decode cX6_sumOf 32 = .ok (.aload_n 0, 1) := by decide +kernel
theorem dX6_sumOf_33 : decode cX6_sumOf 33 = .ok (.getfield 33, 3) := by decide +kernel
theorem dX6_sumOf_36 : decode cX6_sumOf 36 = .ok (.iload_n 3, 1) := by decide +kernel
theorem dX6_sumOf_37 : decode cX6_sumOf 37 = .ok (.iaload, 1) := by decide +kernel
theorem dX6_sumOf_38 : decode cX6_sumOf 38 = .ok (.invokestatic 82, 3) := by decide +kernel
theorem dX6_sumOf_41 : decode cX6_sumOf 41 = .ok (.ifCond .eq 7, 3) := by decide +kernel
theorem dX6_sumOf_44 : decode cX6_sumOf 44 = .ok (.iconst 1, 1) := by decide +kernel
theorem dX6_sumOf_45 : decode cX6_sumOf 45 = .ok (.goto 32, 3) := by decide +kernel
theorem dX6_sumOf_48 : decode cX6_sumOf 48 = .ok (.iconst 0, 1) := by decide +kernel
theorem dX6_sumOf_49 : decode cX6_sumOf 49 = .ok (.goto 28, 3) := by decide +kernel
theorem dX6_sumOf_52 : decode cX6_sumOf 52 = .ok (.aload_n 0, 1) := by decide +kernel
theorem dX6_sumOf_53 : decode cX6_sumOf 53 = .ok (.getfield 33, 3) := by decide +kernel
theorem dX6_sumOf_56 : decode cX6_sumOf 56 = .ok (.iload_n 3, 1) := by decide +kernel
theorem dX6_sumOf_57 : decode cX6_sumOf 57 = .ok (.iaload, 1) := by decide +kernel
theorem dX6_sumOf_58 : decode cX6_sumOf 58 = .ok (.iconst 3, 1) := by decide +kernel
theorem dX6_sumOf_59 : decode cX6_sumOf 59 = .ok (.if_icmp .eq 13, 3) := by decide +kernel
theorem dX6_sumOf_62 : decode cX6_sumOf 62 = .ok (.aload_n 0, 1) := by decide +kernel
theorem dX6_sumOf_63 : decode cX6_sumOf 63 = .ok (.getfield 33, 3) := by decide +kernel
theorem dX6_sumOf_66 : decode cX6_sumOf 66 = .ok (.iload_n 3, 1) := by decide +kernel
theorem dX6_sumOf_67 : decode cX6_sumOf 67 = .ok (.iaload, 1) := by decide +kernel
theorem dX6_sumOf_68 : decode cX6_sumOf 68 = .ok (.iconst 5, 1) := by decide +kernel
theorem dX6_sumOf_69 : decode cX6_sumOf 69 = .ok (.if_icmp .ne 7, 3) := by decide +kernel
theorem dX6_sumOf_72 : decode cX6_sumOf 72 = .ok (.iconst 1, 1) := by decide +kernel
theorem dX6_sumOf_73 : decode cX6_sumOf 73 = .ok (.goto 4, 3) := by decide +kernel
theorem dX6_sumOf_76 : decode cX6_sumOf 76 = .ok (.iconst 0, 1) := by decide +kernel
theorem dX6_sumOf_77 : decode cX6_sumOf 77 = .ok (.iadd, 1) := by decide +kernel
theorem dX6_sumOf_78 : decode cX6_sumOf 78 = .ok (.istore_n 2, 1) := by decide +kernel
theorem dX6_sumOf_79 : decode cX6_sumOf 79 = .ok (.iinc 3 1, 3) := by decide +kernel
theorem dX6_sumOf_82 : decode cX6_sumOf 82 = .ok (.goto (-78), 3) := by decide +kernel
theorem dX6_sumOf_85 : decode cX6_sumOf 85 = .ok (.iload_n 2, 1) := by decide +kernel
theorem dX6_sumOf_86 : decode cX6_sumOf 86 = .ok (.ireturn, 1) := by decide +kernel
theorem dX6_count_0 : decode cX6_count 0 = .ok (.iload_n 1, 1) := by decide +kernel
theorem dX6_count_1 : decode cX6_count 1 = .ok (.tableswitch 100 0 10 #[59, 64, 71, 76, 81, 88, 88, 88, 94, 94, 94], 59) := by decide +kernel
theorem dX6_count_60 : decode cX6_count 60 = .ok (.aload_n 0, 1) := by decide +kernel
theorem dX6_count_61 : decode cX6_count 61 = .ok (.getfield 94, 3) := by decide +kernel
theorem dX6_count_64 : decode cX6_count 64 = .ok (.ireturn, 1) := by decide +kernel
theorem dX6_count_65 : decode cX6_count 65 = .ok (.aload_n 0, 1) := by decide +kernel
theorem dX6_count_66 : decode cX6_count 66 = .ok (.bipush 9, 2) := by decide +kernel
theorem dX6_count_68 : decode cX6_count 68 = .ok (.invokevirtual 118, 3) := by decide +kernel
theorem dX6_count_71 : decode cX6_count 71 = .ok (.ireturn, 1) := by decide +kernel
theorem dX6_count_72 : decode cX6_count 72 = .ok (.aload_n 0, 1) := by decide +kernel
theorem dX6_count_73 : decode cX6_count 73 = .ok (.getfield 97, 3) := by decide +kernel
theorem dX6_count_76 : decode cX6_count 76 = .ok (.ireturn, 1) := by decide +kernel
theorem dX6_count_77 : decode cX6_count 77 = .ok (.aload_n 0, 1) := by decide +kernel
theorem dX6_count_78 : decode cX6_count 78 = .ok (.invokevirtual 121, 3) := by decide +kernel
theorem dX6_count_81 : decode cX6_count 81 = .ok (.ireturn, 1) := by decide +kernel
theorem dX6_count_82 : decode cX6_count 82 = .ok (.aload_n 0, 1) := by decide +kernel
theorem dX6_count_83 : decode cX6_count 83 = .ok (.bipush 10, 2) := by decide +kernel
theorem dX6_count_85 : decode cX6_count 85 = .ok (.invokevirtual 118, 3) := by decide +kernel
theorem dX6_count_88 : decode cX6_count 88 = .ok (.ireturn, 1) := by decide +kernel
theorem dX6_count_89 : decode cX6_count 89 = .ok (.aload_n 0, 1) := by decide +kernel
theorem dX6_count_90 : decode cX6_count 90 = .ok (.iload_n 1, 1) := by decide +kernel
theorem dX6_count_91 : decode cX6_count 91 = .ok (.invokevirtual 214, 3) := by decide +kernel
theorem dX6_count_94 : decode cX6_count 94 = .ok (.ireturn, 1) := by decide +kernel
theorem dX6_count_95 : decode cX6_count 95 = .ok (.aload_n 0, 1) := by decide +kernel
theorem dX6_count_96 : decode cX6_count 96 = .ok (.iload_n 1, 1) := by decide +kernel
theorem dX6_count_97 : decode cX6_count 97 = .ok (.invokevirtual 217, 3) := by decide +kernel
theorem dX6_count_100 : decode cX6_count 100 = .ok (.ireturn, 1) := by decide +kernel
theorem dX6_count_101 : decode cX6_count 101 = .ok (.iconst (-1), 1) := by decide +kernel
theorem dX6_count_102 : decode cX6_count 102 = .ok (.ireturn, 1) := by decide +kernel
theorem dX6_finding_0 : decode cX6_finding 0 = .ok (.aload_n 0, 1) := by decide +kernel
theorem dX6_finding_1 : decode cX6_finding 1 = .ok (.getfield 54, 3) := by decide +kernel
theorem dX6_finding_4 : decode cX6_finding 4 = .ok (.ireturn, 1) := by decide +kernel
theorem dX6_findings_0 : decode cX6_findings 0 = .ok (.iload_n 1, 1) := by decide +kernel
theorem dX6_findings_1 : decode cX6_findings 1 = .ok (.iconst 1, 1) := by decide +kernel
theorem dX6_findings_2 : decode cX6_findings 2 = .ok (.iconst 5, 1) := by decide +kernel
theorem dX6_findings_3 : decode cX6_findings 3 = .ok (.invokestatic 64, 3) := by decide +kernel
theorem dX6_findings_6 : decode cX6_findings 6 = .ok (.ifCond .eq 12, 3) := by decide +kernel
theorem dX6_findings_9 : decode cX6_findings 9 = .ok (.aload_n 0, 1) := by decide +kernel
theorem dX6_findings_10 : decode cX6_findings 10 = .ok (.getfield 7, 3) := by decide +kernel
theorem dX6_findings_13 : decode cX6_findings 13 = .ok (.iload_n 1, 1) := by decide +kernel
theorem dX6_findings_14 : decode cX6_findings 14 = .ok (.iaload, 1) := by decide +kernel
theorem dX6_findings_15 : decode cX6_findings 15 = .ok (.goto 4, 3) := by decide +kernel
theorem dX6_findings_18 : decode cX6_findings 18 = .ok (.iconst (-1), 1) := by decide +kernel
theorem dX6_findings_19 : decode cX6_findings 19 = .ok (.ireturn, 1) := by decide +kernel
theorem dX6_digest_0 : decode cX6_digest 0 = .ok (.ldc2_w 220, 3) := by decide +kernel
theorem dX6_digest_3 : decode cX6_digest 3 = .ok (.lstore_n 1, 1) := by decide +kernel
theorem dX6_digest_4 : decode cX6_digest 4 = .ok (.iconst 0, 1) := by decide +kernel
theorem dX6_digest_5 : decode cX6_digest 5 = .ok (.istore_n 3, 1) := by decide +kernel
theorem dX6_digest_6 : decode cX6_digest 6 = .ok (.iload_n 3, 1) := by decide +kernel
theorem dX6_digest_7 : decode cX6_digest 7 = .ok (.bipush 10, 2) := by decide +kernel
theorem dX6_digest_9 : decode cX6_digest 9 = .ok (.if_icmp .gt 22, 3) := by decide +kernel
theorem dX6_digest_12 : decode cX6_digest 12 = .ok (.ldc2_w 222, 3) := by decide +kernel
theorem dX6_digest_15 : decode cX6_digest 15 = .ok (.lload_n 1, 1) := by decide +kernel
theorem dX6_digest_16 : decode cX6_digest 16 = .ok (.lmul, 1) := by decide +kernel
theorem dX6_digest_17 : decode cX6_digest 17 = .ok (.aload_n 0, 1) := by decide +kernel
theorem dX6_digest_18 : decode cX6_digest 18 = .ok (.iload_n 3, 1) := by decide +kernel
theorem dX6_digest_19 : decode cX6_digest 19 = .ok (.invokevirtual 224, 3) := by decide +kernel
theorem dX6_digest_22 : decode cX6_digest 22 = .ok (.i2l, 1) := by decide +kernel
theorem dX6_digest_23 : decode cX6_digest 23 = .ok (.ladd, 1) := by decide +kernel
theorem dX6_digest_24 : decode cX6_digest 24 = .ok (.lstore_n 1, 1) := by decide +kernel
theorem dX6_digest_25 : decode cX6_digest 25 = .ok (.iinc 3 1, 3) := by decide +kernel
theorem dX6_digest_28 : decode cX6_digest 28 = .ok (.goto (-22), 3) := by decide +kernel
theorem dX6_digest_31 : decode cX6_digest 31 = .ok (.iconst 0, 1) := by decide +kernel
theorem dX6_digest_32 : decode cX6_digest 32 = .ok (.istore_n 3, 1) := by decide +kernel
theorem dX6_digest_33 : decode cX6_digest 33 = .ok (.iload_n 3, 1) := by decide +kernel
theorem dX6_digest_34 : decode cX6_digest 34 = .ok (.aload_n 0, 1) := by decide +kernel
theorem dX6_digest_35 : decode cX6_digest 35 = .ok (.getfield 94, 3) := by decide +kernel
theorem dX6_digest_38 : decode cX6_digest 38 = .ok (.if_icmp .ge 39, 3) := by decide +kernel
theorem dX6_digest_41 : decode cX6_digest 41 = .ok (.iconst 0, 1) := by decide +kernel
theorem dX6_digest_42 : decode cX6_digest 42 = .ok (.istore 4, 2) := by decide +kernel
theorem dX6_digest_44 : decode cX6_digest 44 = .ok (.iload 4, 2) := by decide +kernel
theorem dX6_digest_46 : decode cX6_digest 46 = .ok (.iconst 5, 1) := by decide +kernel
theorem dX6_digest_47 : decode cX6_digest 47 = .ok (.if_icmp .gt 24, 3) := by decide +kernel
theorem dX6_digest_50 : decode cX6_digest 50 = .ok (.ldc2_w 222, 3) := by decide +kernel
theorem dX6_digest_53 : decode cX6_digest 53 = .ok (.lload_n 1, 1) := by decide +kernel
theorem dX6_digest_54 : decode cX6_digest 54 = .ok (.lmul, 1) := by decide +kernel
theorem dX6_digest_55 : decode cX6_digest 55 = .ok (.aload_n 0, 1) := by decide +kernel
theorem dX6_digest_56 : decode cX6_digest 56 = .ok (.iload_n 3, 1) := by decide +kernel
theorem dX6_digest_57 : decode cX6_digest 57 = .ok (.iload 4, 2) := by decide +kernel
theorem dX6_digest_59 : decode cX6_digest 59 = .ok (.invokevirtual 131, 3) := by decide +kernel
theorem dX6_digest_62 : decode cX6_digest 62 = .ok (.i2l, 1) := by decide +kernel
theorem dX6_digest_63 : decode cX6_digest 63 = .ok (.ladd, 1) := by decide +kernel
theorem dX6_digest_64 : decode cX6_digest 64 = .ok (.lstore_n 1, 1) := by decide +kernel
theorem dX6_digest_65 : decode cX6_digest 65 = .ok (.iinc 4 1, 3) := by decide +kernel
theorem dX6_digest_68 : decode cX6_digest 68 = .ok (.goto (-24), 3) := by decide +kernel
theorem dX6_digest_71 : decode cX6_digest 71 = .ok (.iinc 3 1, 3) := by decide +kernel
theorem dX6_digest_74 : decode cX6_digest 74 = .ok (.goto (-41), 3) := by decide +kernel
theorem dX6_digest_77 : decode cX6_digest 77 = .ok (.iconst 0, 1) := by decide +kernel
theorem dX6_digest_78 : decode cX6_digest 78 = .ok (.istore_n 3, 1) := by decide +kernel
theorem dX6_digest_79 : decode cX6_digest 79 = .ok (.iload_n 3, 1) := by decide +kernel
theorem dX6_digest_80 : decode cX6_digest 80 = .ok (.iconst 3, 1) := by decide +kernel
theorem dX6_digest_81 : decode cX6_digest 81 = .ok (.if_icmp .ge 23, 3) := by decide +kernel
theorem dX6_digest_84 : decode cX6_digest 84 = .ok (.ldc2_w 222, 3) := by decide +kernel
theorem dX6_digest_87 : decode cX6_digest 87 = .ok (.lload_n 1, 1) := by decide +kernel
theorem dX6_digest_88 : decode cX6_digest 88 = .ok (.lmul, 1) := by decide +kernel
theorem dX6_digest_89 : decode cX6_digest 89 = .ok (.aload_n 0, 1) := by decide +kernel
theorem dX6_digest_90 : decode cX6_digest 90 = .ok (.getfield 45, 3) := by decide +kernel
theorem dX6_digest_93 : decode cX6_digest 93 = .ok (.iload_n 3, 1) := by decide +kernel
theorem dX6_digest_94 : decode cX6_digest 94 = .ok (.iaload, 1) := by decide +kernel
theorem dX6_digest_95 : decode cX6_digest 95 = .ok (.i2l, 1) := by decide +kernel
theorem dX6_digest_96 : decode cX6_digest 96 = .ok (.ladd, 1) := by decide +kernel
theorem dX6_digest_97 : decode cX6_digest 97 = .ok (.lstore_n 1, 1) := by decide +kernel
theorem dX6_digest_98 : decode cX6_digest 98 = .ok (.iinc 3 1, 3) := by decide +kernel
theorem dX6_digest_101 : decode cX6_digest 101 = .ok (.goto (-22), 3) := by decide +kernel
theorem dX6_digest_104 : decode cX6_digest 104 = .ok (.iconst 0, 1) := by decide +kernel
theorem dX6_digest_105 : decode cX6_digest 105 = .ok (.istore_n 3, 1) := by decide +kernel
theorem dX6_digest_106 : decode cX6_digest 106 = .ok (.iload_n 3, 1) := by decide +kernel
theorem dX6_digest_107 : decode cX6_digest 107 = .ok (.bipush 6, 2) := by decide +kernel
theorem dX6_digest_109 : decode cX6_digest 109 = .ok (.if_icmp .ge 63, 3) := by decide +kernel
theorem dX6_digest_112 : decode cX6_digest 112 = .ok (.ldc2_w 222, 3) := by decide +kernel
theorem dX6_digest_115 : decode cX6_digest 115 = .ok (.lload_n 1, 1) := by decide +kernel
theorem dX6_digest_116 : decode cX6_digest 116 = .ok (.lmul, 1) := by decide +kernel
theorem dX6_digest_117 : decode cX6_digest 117 = .ok (.aload_n 0, 1) := by decide +kernel
theorem dX6_digest_118 : decode cX6_digest 118 = .ok (.getfield 17, 3) := by decide +kernel
theorem dX6_digest_121 : decode cX6_digest 121 = .ok (.iload_n 3, 1) := by decide +kernel
theorem dX6_digest_122 : decode cX6_digest 122 = .ok (.iaload, 1) := by decide +kernel
theorem dX6_digest_123 : decode cX6_digest 123 = .ok (.i2l, 1) := by decide +kernel
theorem dX6_digest_124 : decode cX6_digest 124 = .ok (.ladd, 1) := by decide +kernel
theorem dX6_digest_125 : decode cX6_digest 125 = .ok (.lstore_n 1, 1) := by decide +kernel
theorem dX6_digest_126 : decode cX6_digest 126 = .ok (.iconst 0, 1) := by decide +kernel
theorem dX6_digest_127 : decode cX6_digest 127 = .ok (.istore 4, 2) := by decide +kernel
theorem dX6_digest_129 : decode cX6_digest 129 = .ok (.iload 4, 2) := by decide +kernel
theorem dX6_digest_131 : decode cX6_digest 131 = .ok (.aload_n 0, 1) := by decide +kernel
theorem dX6_digest_132 : decode cX6_digest 132 = .ok (.getfield 17, 3) := by decide +kernel
theorem dX6_digest_135 : decode cX6_digest 135 = .ok (.iload_n 3, 1) := by decide +kernel
theorem dX6_digest_136 : decode cX6_digest 136 = .ok (.iaload, 1) := by decide +kernel
theorem dX6_digest_137 : decode cX6_digest 137 = .ok (.if_icmp .ge 29, 3) := by decide +kernel
theorem dX6_digest_140 : decode cX6_digest 140 = .ok (.ldc2_w 222, 3) := by decide +kernel
theorem dX6_digest_143 : decode cX6_digest 143 = .ok (.lload_n 1, 1) := by decide +kernel
theorem dX6_digest_144 : decode cX6_digest 144 = .ok (.lmul, 1) := by decide +kernel
theorem dX6_digest_145 : decode cX6_digest 145 = .ok (.aload_n 0, 1) := by decide +kernel
theorem dX6_digest_146 : decode cX6_digest 146 = .ok (.getfield 20, 3) := by decide +kernel
theorem dX6_digest_149 : decode cX6_digest 149 = .ok (.bipush 40, 2) := by decide +kernel
theorem dX6_digest_151 : decode cX6_digest 151 = .ok (.iload_n 3, 1) := by decide +kernel
theorem dX6_digest_152 : decode cX6_digest 152 = .ok (.imul, 1) := by decide +kernel
theorem dX6_digest_153 : decode cX6_digest 153 = .ok (.iload 4, 2) := by decide +kernel
theorem dX6_digest_155 : decode cX6_digest 155 = .ok (.iadd, 1) := by decide +kernel
theorem dX6_digest_156 : decode cX6_digest 156 = .ok (.iaload, 1) := by decide +kernel
theorem dX6_digest_157 : decode cX6_digest 157 = .ok (.i2l, 1) := by decide +kernel
theorem dX6_digest_158 : decode cX6_digest 158 = .ok (.ladd, 1) := by decide +kernel
theorem dX6_digest_159 : decode cX6_digest 159 = .ok (.lstore_n 1, 1) := by decide +kernel
theorem dX6_digest_160 : decode cX6_digest 160 = .ok (.iinc 4 1, 3) := by decide +kernel
theorem dX6_digest_163 : decode cX6_digest 163 = .ok (.goto (-34), 3) := by decide +kernel
theorem dX6_digest_166 : decode cX6_digest 166 = .ok (.iinc 3 1, 3) := by decide +kernel
theorem dX6_digest_169 : decode cX6_digest 169 = .ok (.goto (-63), 3) := by decide +kernel
theorem dX6_digest_172 : decode cX6_digest 172 = .ok (.iconst 0, 1) := by decide +kernel
theorem dX6_digest_173 : decode cX6_digest 173 = .ok (.istore_n 3, 1) := by decide +kernel
theorem dX6_digest_174 : decode cX6_digest 174 = .ok (.iload_n 3, 1) := by decide +kernel
theorem dX6_digest_175 : decode cX6_digest 175 = .ok (.iconst 4, 1) := by decide +kernel
theorem dX6_digest_176 : decode cX6_digest 176 = .ok (.if_icmp .ge 63, 3) := by decide +kernel
theorem dX6_digest_179 : decode cX6_digest 179 = .ok (.ldc2_w 222, 3) := by decide +kernel
theorem dX6_digest_182 : decode cX6_digest 182 = .ok (.lload_n 1, 1) := by decide +kernel
theorem dX6_digest_183 : decode cX6_digest 183 = .ok (.lmul, 1) := by decide +kernel
theorem dX6_digest_184 : decode cX6_digest 184 = .ok (.aload_n 0, 1) := by decide +kernel
theorem dX6_digest_185 : decode cX6_digest 185 = .ok (.getfield 23, 3) := by decide +kernel
theorem dX6_digest_188 : decode cX6_digest 188 = .ok (.iload_n 3, 1) := by decide +kernel
theorem dX6_digest_189 : decode cX6_digest 189 = .ok (.iaload, 1) := by decide +kernel
theorem dX6_digest_190 : decode cX6_digest 190 = .ok (.i2l, 1) := by decide +kernel
theorem dX6_digest_191 : decode cX6_digest 191 = .ok (.ladd, 1) := by decide +kernel
theorem dX6_digest_192 : decode cX6_digest 192 = .ok (.lstore_n 1, 1) := by decide +kernel
theorem dX6_digest_193 : decode cX6_digest 193 = .ok (.iconst 0, 1) := by decide +kernel
theorem dX6_digest_194 : decode cX6_digest 194 = .ok (.istore 4, 2) := by decide +kernel
theorem dX6_digest_196 : decode cX6_digest 196 = .ok (.iload 4, 2) := by decide +kernel
theorem dX6_digest_198 : decode cX6_digest 198 = .ok (.aload_n 0, 1) := by decide +kernel
theorem dX6_digest_199 : decode cX6_digest 199 = .ok (.getfield 23, 3) := by decide +kernel
theorem dX6_digest_202 : decode cX6_digest 202 = .ok (.iload_n 3, 1) := by decide +kernel
theorem dX6_digest_203 : decode cX6_digest 203 = .ok (.iaload, 1) := by decide +kernel
theorem dX6_digest_204 : decode cX6_digest 204 = .ok (.if_icmp .ge 29, 3) := by decide +kernel
theorem dX6_digest_207 : decode cX6_digest 207 = .ok (.ldc2_w 222, 3) := by decide +kernel
theorem dX6_digest_210 : decode cX6_digest 210 = .ok (.lload_n 1, 1) := by decide +kernel
theorem dX6_digest_211 : decode cX6_digest 211 = .ok (.lmul, 1) := by decide +kernel
theorem dX6_digest_212 : decode cX6_digest 212 = .ok (.aload_n 0, 1) := by decide +kernel
theorem dX6_digest_213 : decode cX6_digest 213 = .ok (.getfield 26, 3) := by decide +kernel
theorem dX6_digest_216 : decode cX6_digest 216 = .ok (.bipush 60, 2) := by decide +kernel
theorem dX6_digest_218 : decode cX6_digest 218 = .ok (.iload_n 3, 1) := by decide +kernel
theorem dX6_digest_219 : decode cX6_digest 219 = .ok (.imul, 1) := by decide +kernel
theorem dX6_digest_220 : decode cX6_digest 220 = .ok (.iload 4, 2) := by decide +kernel
theorem dX6_digest_222 : decode cX6_digest 222 = .ok (.iadd, 1) := by decide +kernel
theorem dX6_digest_223 : decode cX6_digest 223 = .ok (.baload, 1) := by decide +kernel
theorem dX6_digest_224 : decode cX6_digest 224 = .ok (.i2l, 1) := by decide +kernel
theorem dX6_digest_225 : decode cX6_digest 225 = .ok (.ladd, 1) := by decide +kernel
theorem dX6_digest_226 : decode cX6_digest 226 = .ok (.lstore_n 1, 1) := by decide +kernel
theorem dX6_digest_227 : decode cX6_digest 227 = .ok (.iinc 4 1, 3) := by decide +kernel
theorem dX6_digest_230 : decode cX6_digest 230 = .ok (.goto (-34), 3) := by decide +kernel
theorem dX6_digest_233 : decode cX6_digest 233 = .ok (.iinc 3 1, 3) := by decide +kernel
theorem dX6_digest_236 : decode cX6_digest 236 = .ok (.goto (-62), 3) := by decide +kernel
theorem dX6_digest_239 : decode cX6_digest 239 = .ok (.lload_n 1, 1) := by decide +kernel
theorem dX6_digest_240 : decode cX6_digest 240 = .ok (.lreturn, 1) := by decide +kernel
