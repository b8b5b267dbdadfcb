theorem dX5_init_0 : decode cX5_init 0 = .ok (.aload_n 0, 1) := by decide +kernel
theorem dX5_init_1 : decode cX5_init 1 = .ok (.invokespecial 1, 3) := by decide +kernel
theorem dX5_init_4 : decode cX5_init 4 = .ok (.aload_n 0, 1) := by decide +kernel
theorem dX5_init_5 : decode cX5_init 5 = .ok (.bipush 6, 2) := by decide +kernel
theorem dX5_init_7 : decode cX5_init 7 = .ok (.anewarray 9, 3) := by decide +kernel
theorem dX5_init_10 : decode cX5_init 10 = .ok (.putfield 11, 3) := by decide +kernel
theorem dX5_init_13 : decode cX5_init 13 = .ok (.aload_n 0, 1) := by decide +kernel
theorem dX5_init_14 : decode cX5_init 14 = .ok (.iconst 4, 1) := by decide +kernel
theorem dX5_init_15 : decode cX5_init 15 = .ok (.anewarray 9, 3) := by decide +kernel
theorem dX5_init_18 : decode cX5_init 18 = .ok (.putfield 15, 3) := by decide +kernel
theorem dX5_init_21 : decode cX5_init 21 = .ok (.aload_n 0, 1) := by decide +kernel
theorem dX5_init_22 : decode cX5_init 22 = .ok (.iconst 3, 1) := by decide +kernel
theorem dX5_init_23 : decode cX5_init 23 = .ok (.anewarray 18, 3) := by decide +kernel
theorem dX5_init_26 : decode cX5_init 26 = .ok (.putfield 20, 3) := by decide +kernel
theorem dX5_init_29 : decode cX5_init 29 = .ok (.aload_n 0, 1) := by decide +kernel
theorem dX5_init_30 : decode cX5_init 30 = .ok (.new 18, 3) := by decide +kernel
theorem dX5_init_33 : decode cX5_init 33 = .ok (.dup, 1) := by decide +kernel
theorem dX5_init_34 : decode cX5_init 34 = .ok (.invokespecial 24, 3) := by decide +kernel
theorem dX5_init_37 : decode cX5_init 37 = .ok (.putfield 25, 3) := by decide +kernel
theorem dX5_init_40 : decode cX5_init 40 = .ok (.aload_n 0, 1) := by decide +kernel
theorem dX5_init_41 : decode cX5_init 41 = .ok (.new 29, 3) := by decide +kernel
theorem dX5_init_44 : decode cX5_init 44 = .ok (.dup, 1) := by decide +kernel
theorem dX5_init_45 : decode cX5_init 45 = .ok (.invokespecial 31, 3) := by decide +kernel
theorem dX5_init_48 : decode cX5_init 48 = .ok (.putfield 32, 3) := by decide +kernel
theorem dX5_init_51 : decode cX5_init 51 = .ok (.aload_n 0, 1) := by decide +kernel
theorem dX5_init_52 : decode cX5_init 52 = .ok (.new 29, 3) := by decide +kernel
theorem dX5_init_55 : decode cX5_init 55 = .ok (.dup, 1) := by decide +kernel
theorem dX5_init_56 : decode cX5_init 56 = .ok (.invokespecial 31, 3) := by decide +kernel
theorem dX5_init_59 : decode cX5_init 59 = .ok (.putfield 36, 3) := by decide +kernel
theorem dX5_init_62 : decode cX5_init 62 = .ok (.aload_n 0, 1) := by decide +kernel
theorem dX5_init_63 : decode cX5_init 63 = .ok (.new 39, 3) := by decide +kernel
theorem dX5_init_66 : decode cX5_init 66 = .ok (.dup, 1) := by decide +kernel
theorem dX5_init_67 : decode cX5_init 67 = .ok (.invokespecial 41, 3) := by decide +kernel
theorem dX5_init_70 : decode cX5_init 70 = .ok (.putfield 42, 3) := by decide +kernel
theorem dX5_init_73 : decode cX5_init 73 = .ok (.aload_n 0, 1) := by decide +kernel
theorem dX5_init_74 : decode cX5_init 74 = .ok (.sipush 512, 3) := by decide +kernel
theorem dX5_init_77 : decode cX5_init 77 = .ok (.newarray .int, 2) := by decide +kernel
theorem dX5_init_79 : decode cX5_init 79 = .ok (.putfield 46, 3) := by decide +kernel
theorem dX5_init_82 : decode cX5_init 82 = .ok (.aload_n 0, 1) := by decide +kernel
theorem dX5_init_83 : decode cX5_init 83 = .ok (.iconst 4, 1) := by decide +kernel
theorem dX5_init_84 : decode cX5_init 84 = .ok (.newarray .int, 2) := by decide +kernel
theorem dX5_init_86 : decode cX5_init 86 = .ok (.putfield 50, 3) := by decide +kernel
theorem dX5_init_89 : decode cX5_init 89 = .ok (.aload_n 0, 1) := by decide +kernel
theorem dX5_init_90 : decode cX5_init 90 = .ok (.bipush 6, 2) := by decide +kernel
theorem dX5_init_92 : decode cX5_init 92 = .ok (.newarray .int, 2) := by decide +kernel
theorem dX5_init_94 : decode cX5_init 94 = .ok (.putfield 53, 3) := by decide +kernel
theorem dX5_init_97 : decode cX5_init 97 = .ok (.aload_n 0, 1) := by decide +kernel
theorem dX5_init_98 : decode cX5_init 98 = .ok (.iconst 0, 1) := by decide +kernel
theorem dX5_init_99 : decode cX5_init 99 = .ok (.putfield 56, 3) := by decide +kernel
theorem dX5_init_102 : decode cX5_init 102 = .ok (.aload_n 0, 1) := by decide +kernel
theorem dX5_init_103 : decode cX5_init 103 = .ok (.iconst 0, 1) := by decide +kernel
theorem dX5_init_104 : decode cX5_init 104 = .ok (.putfield 60, 3) := by decide +kernel
theorem dX5_init_107 : decode cX5_init 107 = .ok (.aload_n 0, 1) := by decide +kernel
theorem dX5_init_108 : decode cX5_init 108 = .ok (.lconst 0, 1) := by decide +kernel
theorem dX5_init_109 : decode cX5_init 109 = .ok (.putfield 63, 3) := by decide +kernel
theorem dX5_init_112 : decode cX5_init 112 = .ok (.aload_n 0, 1) := by decide +kernel
theorem dX5_init_113 : decode cX5_init 113 = .ok (.lconst 1, 1) := by decide +kernel
theorem dX5_init_114 : decode cX5_init 114 = .ok (.putfield 67, 3) := by decide +kernel
theorem dX5_init_117 : decode cX5_init 117 = .ok (.iconst 0, 1) := by decide +kernel
theorem dX5_init_118 : decode cX5_init 118 = .ok (.istore_n 1, 1) := by decide +kernel
theorem dX5_init_119 : decode cX5_init 119 = .ok (.iload_n 1, 1) := by decide +kernel
theorem dX5_init_120 : decode cX5_init 120 = .ok (.bipush 6, 2) := by decide +kernel
theorem dX5_init_122 : decode cX5_init 122 = .ok (.if_icmp .ge 24, 3) := by decide +kernel
theorem dX5_init_125 : decode cX5_init 125 = .ok (.aload_n 0, 1) := by decide +kernel
theorem dX5_init_126 : decode cX5_init 126 = .ok (.getfield 11, 3) := by decide +kernel
theorem dX5_init_129 : decode cX5_init 129 = .ok (.iload_n 1, 1) := by decide +kernel
theorem dX5_init_130 : decode cX5_init 130 = .ok (.new 9, 3) := by decide +kernel
theorem dX5_init_133 : decode cX5_init 133 = .ok (.dup, 1) := by decide +kernel
theorem dX5_init_134 : decode cX5_init 134 = .ok (.bipush 40, 2) := by decide +kernel
theorem dX5_init_136 : decode cX5_init 136 = .ok (.invokespecial 70, 3) := by decide +kernel
theorem dX5_init_139 : decode cX5_init 139 = .ok (.aastore, 1) := by decide +kernel
theorem dX5_init_140 : decode cX5_init 140 = .ok (.iinc 1 1, 3) := by decide +kernel
theorem dX5_init_143 : decode cX5_init 143 = .ok (.goto (-24), 3) := by decide +kernel
theorem dX5_init_146 : decode cX5_init 146 = .ok (.iconst 0, 1) := by decide +kernel
theorem dX5_init_147 : decode cX5_init 147 = .ok (.istore_n 1, 1) := by decide +kernel
theorem dX5_init_148 : decode cX5_init 148 = .ok (.iload_n 1, 1) := by decide +kernel
theorem dX5_init_149 : decode cX5_init 149 = .ok (.iconst 4, 1) := by decide +kernel
theorem dX5_init_150 : decode cX5_init 150 = .ok (.if_icmp .ge 24, 3) := by decide +kernel
theorem dX5_init_153 : decode cX5_init 153 = .ok (.aload_n 0, 1) := by decide +kernel
theorem dX5_init_154 : decode cX5_init 154 = .ok (.getfield 15, 3) := by decide +kernel
theorem dX5_init_157 : decode cX5_init 157 = .ok (.iload_n 1, 1) := by decide +kernel
theorem dX5_init_158 : decode cX5_init 158 = .ok (.new 9, 3) := by decide +kernel
theorem dX5_init_161 : decode cX5_init 161 = .ok (.dup, 1) := by decide +kernel
theorem dX5_init_162 : decode cX5_init 162 = .ok (.bipush 60, 2) := by decide +kernel
theorem dX5_init_164 : decode cX5_init 164 = .ok (.invokespecial 70, 3) := by decide +kernel
theorem dX5_init_167 : decode cX5_init 167 = .ok (.aastore, 1) := by decide +kernel
theorem dX5_init_168 : decode cX5_init 168 = .ok (.iinc 1 1, 3) := by decide +kernel
theorem dX5_init_171 : decode cX5_init 171 = .ok (.goto (-23), 3) := by decide +kernel
theorem dX5_init_174 : decode cX5_init 174 = .ok (.iconst 0, 1) := by decide +kernel
theorem dX5_init_175 : decode cX5_init 175 = .ok (.istore_n 1, 1) := by decide +kernel
theorem dX5_init_176 : decode cX5_init 176 = .ok (.iload_n 1, 1) := by decide +kernel
theorem dX5_init_177 : decode cX5_init 177 = .ok (.iconst 3, 1) := by decide +kernel
theorem dX5_init_178 : decode cX5_init 178 = .ok (.if_icmp .ge 22, 3) := by decide +kernel
theorem dX5_init_181 : decode cX5_init 181 = .ok (.aload_n 0, 1) := by decide +kernel
theorem dX5_init_182 : decode cX5_init 182 = .ok (.getfield 20, 3) := by decide +kernel
theorem dX5_init_185 : decode cX5_init 185 = .ok (.iload_n 1, 1) := by decide +kernel
theorem dX5_init_186 : decode cX5_init 186 = .ok (.new 18, 3) := by decide +kernel
theorem dX5_init_189 : decode cX5_init 189 = .ok (.dup, 1) := by decide +kernel
theorem dX5_init_190 : decode cX5_init 190 = .ok (.invokespecial 24, 3) := by decide +kernel
theorem dX5_init_193 : decode cX5_init 193 = .ok (.aastore, 1) := by decide +kernel
theorem dX5_init_194 : decode cX5_init 194 = .ok (.iinc 1 1, 3) := by decide +kernel
theorem dX5_init_197 : decode cX5_init 197 = .ok (.goto (-21), 3) := by decide +kernel
theorem dX5_init_200 : decode cX5_init 200 = .ok (.return_, 1) := by decide +kernel
theorem dX5_row_0 : decode cX5_row 0 = .ok (.aload_n 0, 1) := by decide +kernel
theorem dX5_row_1 : decode cX5_row 1 = .ok (.aload_n 0, 1) := by decide +kernel
theorem dX5_row_2 : decode cX5_row 2 = .ok (.iload_n 1, 1) := by decide +kernel
theorem dX5_row_3 : decode cX5_row 3 = .ok (.invokevirtual 73, 3) := by decide +kernel
theorem dX5_row_6 : decode cX5_row 6 = .ok (.iload_n 2, 1) := by decide +kernel
theorem dX5_row_7 : decode cX5_row 7 = .ok (.bipush 40, 2) := by decide +kernel
theorem dX5_row_9 : decode cX5_row 9 = .ok (.iconst 0, 1) := by decide +kernel
theorem dX5_row_10 : decode cX5_row 10 = .ok (.invokevirtual 77, 3) := by decide +kernel
theorem dX5_row_13 : decode cX5_row 13 = .ok (.ireturn, 1) := by decide +kernel
theorem dX5_lay_0 : decode cX5_lay 0 = .ok (.aload_n 0, 1) := by decide +kernel
theorem dX5_lay_1 : decode cX5_lay 1 = .ok (.iload_n 1, 1) := by decide +kernel
theorem dX5_lay_2 : decode cX5_lay 2 = .ok (.invokevirtual 73, 3) := by decide +kernel
theorem dX5_lay_5 : decode cX5_lay 5 = .ok (.astore 4, 2) := by decide +kernel
theorem dX5_lay_7 : decode cX5_lay 7 = .ok (.aload_n 0, 1) := by decide +kernel
theorem dX5_lay_8 : decode cX5_lay 8 = .ok (.aload 4, 2) := by decide +kernel
theorem dX5_lay_10 : decode cX5_lay 10 = .ok (.iload_n 2, 1) := by decide +kernel
theorem dX5_lay_11 : decode cX5_lay 11 = .ok (.invokevirtual 81, 3) := by decide +kernel
theorem dX5_lay_14 : decode cX5_lay 14 = .ok (.istore 5, 2) := by decide +kernel
theorem dX5_lay_16 : decode cX5_lay 16 = .ok (.aload 4, 2) := by decide +kernel
theorem dX5_lay_18 : decode cX5_lay 18 = .ok (.ifnull 8, 3) := by decide +kernel
theorem dX5_lay_21 : decode cX5_lay 21 = .ok (.iload 5, 2) := by decide +kernel
theorem dX5_lay_23 : decode cX5_lay 23 = .ok (.ifCond .eq 6, 3) := by decide +kernel
theorem dX5_lay_26 : decode cX5_lay 26 = .ok (.iload 5, 2) := by decide +kernel
theorem dX5_lay_28 : decode cX5_lay 28 = .ok (.ireturn, 1) := by decide +kernel
theorem dX5_lay_29 : decode cX5_lay 29 = .ok (.aload 4, 2) := by decide +kernel
theorem dX5_lay_31 : decode cX5_lay 31 = .ok (.iload_n 2, 1) := by decide +kernel
theorem dX5_lay_32 : decode cX5_lay 32 = .ok (.invokevirtual 85, 3) := by decide +kernel
theorem dX5_lay_35 : decode cX5_lay 35 = .ok (.istore 6, 2) := by decide +kernel
theorem dX5_lay_37 : decode cX5_lay 37 = .ok (.aload 4, 2) := by decide +kernel
theorem dX5_lay_39 : decode cX5_lay 39 = .ok (.iload_n 2, 1) := by decide +kernel
theorem dX5_lay_40 : decode cX5_lay 40 = .ok (.iload_n 3, 1) := by decide +kernel
theorem dX5_lay_41 : decode cX5_lay 41 = .ok (.invokevirtual 89, 3) := by decide +kernel
theorem dX5_lay_44 : decode cX5_lay 44 = .ok (.aload_n 0, 1) := by decide +kernel
theorem dX5_lay_45 : decode cX5_lay 45 = .ok (.iload 6, 2) := by decide +kernel
theorem dX5_lay_47 : decode cX5_lay 47 = .ok (.invokevirtual 93, 3) := by decide +kernel
theorem dX5_lay_50 : decode cX5_lay 50 = .ok (.ireturn, 1) := by decide +kernel
theorem dX5_at_0 : decode cX5_at 0 = .ok (.aload_n 0, 1) := by decide +kernel
theorem dX5_at_1 : decode cX5_at 1 = .ok (.iload_n 1, 1) := by decide +kernel
theorem dX5_at_2 : decode cX5_at 2 = .ok (.invokevirtual 73, 3) := by decide +kernel
theorem dX5_at_5 : decode cX5_at 5 = .ok (.astore_n 3, 1) := by decide +kernel
theorem dX5_at_6 : decode cX5_at 6 = .ok (.aload_n 0, 1) := by decide +kernel
theorem dX5_at_7 : decode cX5_at 7 = .ok (.aload_n 3, 1) := by decide +kernel
theorem dX5_at_8 : decode cX5_at 8 = .ok (.iload_n 2, 1) := by decide +kernel
theorem dX5_at_9 : decode cX5_at 9 = .ok (.invokevirtual 81, 3) := by decide +kernel
theorem dX5_at_12 : decode cX5_at 12 = .ok (.istore 4, 2) := by decide +kernel
theorem dX5_at_14 : decode cX5_at 14 = .ok (.aload_n 3, 1) := by decide +kernel
theorem dX5_at_15 : decode cX5_at 15 = .ok (.ifnull 8, 3) := by decide +kernel
theorem dX5_at_18 : decode cX5_at 18 = .ok (.iload 4, 2) := by decide +kernel
theorem dX5_at_20 : decode cX5_at 20 = .ok (.ifCond .eq 8, 3) := by decide +kernel
theorem dX5_at_23 : decode cX5_at 23 = .ok (.iload 4, 2) := by decide +kernel
theorem dX5_at_25 : decode cX5_at 25 = .ok (.goto 12, 3) := by decide +kernel
theorem dX5_at_28 : decode cX5_at 28 = .ok (.aload_n 0, 1) := by decide +kernel
theorem dX5_at_29 : decode cX5_at 29 = .ok (.aload_n 3, 1) := by decide +kernel
theorem dX5_at_30 : decode cX5_at 30 = .ok (.iload_n 2, 1) := by decide +kernel
theorem dX5_at_31 : decode cX5_at 31 = .ok (.invokevirtual 85, 3) := by decide +kernel
theorem dX5_at_34 : decode cX5_at 34 = .ok (.invokevirtual 93, 3) := by decide +kernel
theorem dX5_at_37 : decode cX5_at 37 = .ok (.ireturn, 1) := by decide +kernel
theorem dX5_tear_0 : decode cX5_tear 0 = .ok (.aload_n 0, 1) := by decide +kernel
theorem dX5_tear_1 : decode cX5_tear 1 = .ok (.iload_n 1, 1) := by decide +kernel
theorem dX5_tear_2 : decode cX5_tear 2 = .ok (.invokevirtual 73, 3) := by decide +kernel
theorem dX5_tear_5 : decode cX5_tear 5 = .ok (.astore_n 2, 1) := by decide +kernel
theorem dX5_tear_6 : decode cX5_tear 6 = .ok (.aload_n 0, 1) := by decide +kernel
theorem dX5_tear_7 : decode cX5_tear 7 = .ok (.aload_n 2, 1) := by decide +kernel
theorem dX5_tear_8 : decode cX5_tear 8 = .ok (.invokevirtual 96, 3) := by decide +kernel
theorem dX5_tear_11 : decode cX5_tear 11 = .ok (.istore_n 3, 1) := by decide +kernel
theorem dX5_tear_12 : decode cX5_tear 12 = .ok (.aload_n 2, 1) := by decide +kernel
theorem dX5_tear_13 : decode cX5_tear 13 = .ok (.ifnull 7, 3) := by decide +kernel
theorem dX5_tear_16 : decode cX5_tear 16 = .ok (.iload_n 3, 1) := by decide +kernel
theorem dX5_tear_17 : decode cX5_tear 17 = .ok (.ifCond .eq 5, 3) := by decide +kernel
theorem dX5_tear_20 : decode cX5_tear 20 = .ok (.iload_n 3, 1) := by decide +kernel
theorem dX5_tear_21 : decode cX5_tear 21 = .ok (.ireturn, 1) := by decide +kernel
theorem dX5_tear_22 : decode cX5_tear 22 = .ok (.aload_n 2, 1) := by decide +kernel
theorem dX5_tear_23 : decode cX5_tear 23 = .ok (.invokevirtual 100, 3) := by decide +kernel
theorem dX5_tear_26 : decode cX5_tear 26 = .ok (.iconst 1, 1) := by decide +kernel
theorem dX5_tear_27 : decode cX5_tear 27 = .ok (.ireturn, 1) := by decide +kernel
theorem dX5_copy_0 : decode cX5_copy 0 = .ok (.aload_n 0, 1) := by decide +kernel
theorem dX5_copy_1 : decode cX5_copy 1 = .ok (.iload_n 1, 1) := by decide +kernel
theorem dX5_copy_2 : decode cX5_copy 2 = .ok (.invokevirtual 73, 3) := by decide +kernel
theorem dX5_copy_5 : decode cX5_copy 5 = .ok (.astore 6, 2) := by decide +kernel
theorem dX5_copy_7 : decode cX5_copy 7 = .ok (.aload_n 0, 1) := by decide +kernel
theorem dX5_copy_8 : decode cX5_copy 8 = .ok (.iload_n 3, 1) := by decide +kernel
theorem dX5_copy_9 : decode cX5_copy 9 = .ok (.invokevirtual 73, 3) := by decide +kernel
theorem dX5_copy_12 : decode cX5_copy 12 = .ok (.astore 7, 2) := by decide +kernel
theorem dX5_copy_14 : decode cX5_copy 14 = .ok (.aload 6, 2) := by decide +kernel
theorem dX5_copy_16 : decode cX5_copy 16 = .ok (.ifnull 8, 3) := by decide +kernel
theorem dX5_copy_19 : decode cX5_copy 19 = .ok (.aload 7, 2) := by decide +kernel
theorem dX5_copy_21 : decode cX5_copy 21 = .ok (.ifnonnull 5, 3) := by decide +kernel
theorem dX5_copy_24 : decode cX5_copy 24 = .ok (.iconst (-1), 1) := by decide +kernel
theorem dX5_copy_25 : decode cX5_copy 25 = .ok (.ireturn, 1) := by decide +kernel
theorem dX5_copy_26 : decode cX5_copy 26 = .ok (.iload 5, 2) := by decide +kernel
theorem dX5_copy_28 : decode cX5_copy 28 = .ok (.ifCond .ge 9, 3) := by decide +kernel
theorem dX5_copy_31 : decode cX5_copy 31 = .ok (.aload_n 0, 1) := by decide +kernel
theorem dX5_copy_32 : decode cX5_copy 32 = .ok (.iconst 5, 1) := by decide +kernel
theorem dX5_copy_33 : decode cX5_copy 33 = .ok (.invokevirtual 103, 3) := by decide +kernel
theorem dX5_copy_36 : decode cX5_copy 36 = .ok (.ireturn, 1) := by decide +kernel
theorem dX5_copy_37 : decode cX5_copy 37 = .ok (.aload 6, 2) := by decide +kernel
theorem dX5_copy_39 : decode cX5_copy 39 = .ok (.invokevirtual 106, 3) := by decide +kernel
theorem dX5_copy_42 : decode cX5_copy 42 = .ok (.ifCond .eq 11, 3) := by decide +kernel
theorem dX5_copy_45 : decode cX5_copy 45 = .ok (.aload 7, 2) := by decide +kernel
theorem dX5_copy_47 : decode cX5_copy 47 = .ok (.invokevirtual 106, 3) := by decide +kernel
theorem dX5_copy_50 : decode cX5_copy 50 = .ok (.ifCond .ne 9, 3) := by decide +kernel
theorem dX5_copy_53 : decode cX5_copy 53 = .ok (.aload_n 0, 1) := by decide +kernel
theorem dX5_copy_54 : decode cX5_copy 54 = .ok (.iconst 1, 1) := by decide +kernel
theorem dX5_copy_55 : decode cX5_copy 55 = .ok (.invokevirtual 103, 3) := by decide +kernel
theorem dX5_copy_58 : decode cX5_copy 58 = .ok (.ireturn, 1) := by decide +kernel
theorem dX5_copy_59 : decode cX5_copy 59 = .ok (.aload 6, 2) := by decide +kernel
theorem dX5_copy_61 : decode cX5_copy 61 = .ok (.iload_n 2, 1) := by decide +kernel
theorem dX5_copy_62 : decode cX5_copy 62 = .ok (.iload 5, 2) := by decide +kernel
theorem dX5_copy_64 : decode cX5_copy 64 = .ok (.invokevirtual 110, 3) := by decide +kernel
theorem dX5_copy_67 : decode cX5_copy 67 = .ok (.ifCond .eq 15, 3) := by decide +kernel
theorem dX5_copy_70 : decode cX5_copy 70 = .ok (.aload 7, 2) := by decide +kernel
theorem dX5_copy_72 : decode cX5_copy 72 = .ok (.iload 4, 2) := by decide +kernel
theorem dX5_copy_74 : decode cX5_copy 74 = .ok (.iload 5, 2) := by decide +kernel
theorem dX5_copy_76 : decode cX5_copy 76 = .ok (.invokevirtual 110, 3) := by decide +kernel
theorem dX5_copy_79 : decode cX5_copy 79 = .ok (.ifCond .ne 9, 3) := by decide +kernel
theorem dX5_copy_82 : decode cX5_copy 82 = .ok (.aload_n 0, 1) := by decide +kernel
theorem dX5_copy_83 : decode cX5_copy 83 = .ok (.iconst 2, 1) := by decide +kernel
theorem dX5_copy_84 : decode cX5_copy 84 = .ok (.invokevirtual 103, 3) := by decide +kernel
theorem dX5_copy_87 : decode cX5_copy 87 = .ok (.ireturn, 1) := by decide +kernel
theorem dX5_copy_88 : decode cX5_copy 88 = .ok (.aload 7, 2) := by decide +kernel
theorem dX5_copy_90 : decode cX5_copy 90 = .ok (.aload 6, 2) := by decide +kernel
theorem dX5_copy_92 : decode cX5_copy 92 = .ok (.iload_n 2, 1) := by decide +kernel
theorem dX5_copy_93 : decode cX5_copy 93 = .ok (.iload 4, 2) := by decide +kernel
theorem dX5_copy_95 : decode cX5_copy 95 = .ok (.iload 5, 2) := by decide +kernel
theorem dX5_copy_97 : decode cX5_copy 97 = .ok (.invokevirtual 114, 3) := by decide +kernel
theorem dX5_copy_100 : decode cX5_copy 100 = .ok (.iconst 1, 1) := by decide +kernel
theorem dX5_copy_101 : decode cX5_copy 101 = .ok (.ireturn, 1) := by decide +kernel
theorem dX5_mean_0 : decode cX5_mean 0 = .ok (.aload_n 0, 1) := by decide +kernel
theorem dX5_mean_1 : decode cX5_mean 1 = .ok (.iload_n 1, 1) := by decide +kernel
theorem dX5_mean_2 : decode cX5_mean 2 = .ok (.invokevirtual 73, 3) := by decide +kernel
theorem dX5_mean_5 : decode cX5_mean 5 = .ok (.astore_n 2, 1) := by decide +kernel
theorem dX5_mean_6 : decode cX5_mean 6 = .ok (.aload_n 0, 1) := by decide +kernel
theorem dX5_mean_7 : decode cX5_mean 7 = .ok (.aload_n 2, 1) := by decide +kernel
theorem dX5_mean_8 : decode cX5_mean 8 = .ok (.invokevirtual 96, 3) := by decide +kernel
theorem dX5_mean_11 : decode cX5_mean 11 = .ok (.istore_n 3, 1) := by decide +kernel
theorem dX5_mean_12 : decode cX5_mean 12 = .ok (.aload_n 2, 1) := by decide +kernel
theorem dX5_mean_13 : decode cX5_mean 13 = .ok (.ifnull 7, 3) := by decide +kernel
theorem dX5_mean_16 : decode cX5_mean 16 = .ok (.iload_n 3, 1) := by decide +kernel
theorem dX5_mean_17 : decode cX5_mean 17 = .ok (.ifCond .eq 5, 3) := by decide +kernel
theorem dX5_mean_20 : decode cX5_mean 20 = .ok (.iload_n 3, 1) := by decide +kernel
theorem dX5_mean_21 : decode cX5_mean 21 = .ok (.ireturn, 1) := by decide +kernel
theorem dX5_mean_22 : decode cX5_mean 22 = .ok (.aload_n 2, 1) := by decide +kernel
theorem dX5_mean_23 : decode cX5_mean 23 = .ok (.invokevirtual 118, 3) := by decide +kernel
theorem dX5_mean_26 : decode cX5_mean 26 = .ok (.istore 4, 2) := by decide +kernel
theorem dX5_mean_28 : decode cX5_mean 28 = .ok (.iload 4, 2) := by decide +kernel
theorem dX5_mean_30 : decode cX5_mean 30 = .ok (.ifCond .gt 9, 3) := by decide +kernel
theorem dX5_mean_33 : decode cX5_mean 33 = .ok (.aload_n 0, 1) := by decide +kernel
theorem dX5_mean_34 : decode cX5_mean 34 = .ok (.iconst 4, 1) := by decide +kernel
theorem dX5_mean_35 : decode cX5_mean 35 = .ok (.invokevirtual 103, 3) := by decide +kernel
theorem dX5_mean_38 : decode cX5_mean 38 = .ok (.ireturn, 1) := by decide +kernel
theorem dX5_mean_39 : decode cX5_mean 39 = .ok (.aload_n 0, 1) := by decide +kernel
theorem dX5_mean_40 : decode cX5_mean 40 = .ok (.aload_n 2, 1) := by decide +kernel
theorem dX5_mean_41 : decode cX5_mean 41 = .ok (.invokevirtual 122, 3) := by decide +kernel
theorem dX5_mean_44 : decode cX5_mean 44 = .ok (.iload 4, 2) := by decide +kernel
theorem dX5_mean_46 : decode cX5_mean 46 = .ok (.i2l, 1) := by decide +kernel
theorem dX5_mean_47 : decode cX5_mean 47 = .ok (.ldiv, 1) := by decide +kernel
theorem dX5_mean_48 : decode cX5_mean 48 = .ok (.l2i, 1) := by decide +kernel
theorem dX5_mean_49 : decode cX5_mean 49 = .ok (.invokevirtual 93, 3) := by decide +kernel
theorem dX5_mean_52 : decode cX5_mean 52 = .ok (.ireturn, 1) := by decide +kernel
theorem dX5_text_0 : decode cX5_text 0 = .ok (.aload_n 0, 1) := by decide +kernel
theorem dX5_text_1 : decode cX5_text 1 = .ok (.aload_n 0, 1) := by decide +kernel
theorem dX5_text_2 : decode cX5_text 2 = .ok (.iload_n 1, 1) := by decide +kernel
theorem dX5_text_3 : decode cX5_text 3 = .ok (.invokevirtual 126, 3) := by decide +kernel
theorem dX5_text_6 : decode cX5_text 6 = .ok (.iload_n 2, 1) := by decide +kernel
theorem dX5_text_7 : decode cX5_text 7 = .ok (.bipush 60, 2) := by decide +kernel
theorem dX5_text_9 : decode cX5_text 9 = .ok (.bipush 32, 2) := by decide +kernel
theorem dX5_text_11 : decode cX5_text 11 = .ok (.invokevirtual 77, 3) := by decide +kernel
theorem dX5_text_14 : decode cX5_text 14 = .ok (.ireturn, 1) := by decide +kernel
theorem dX5_put_0 : decode cX5_put 0 = .ok (.aload_n 0, 1) := by decide +kernel
theorem dX5_put_1 : decode cX5_put 1 = .ok (.iload_n 1, 1) := by decide +kernel
theorem dX5_put_2 : decode cX5_put 2 = .ok (.invokevirtual 126, 3) := by decide +kernel
theorem dX5_put_5 : decode cX5_put 5 = .ok (.astore 4, 2) := by decide +kernel
theorem dX5_put_7 : decode cX5_put 7 = .ok (.aload_n 0, 1) := by decide +kernel
theorem dX5_put_8 : decode cX5_put 8 = .ok (.aload 4, 2) := by decide +kernel
theorem dX5_put_10 : decode cX5_put 10 = .ok (.iload_n 2, 1) := by decide +kernel
theorem dX5_put_11 : decode cX5_put 11 = .ok (.invokevirtual 81, 3) := by decide +kernel
theorem dX5_put_14 : decode cX5_put 14 = .ok (.istore 5, 2) := by decide +kernel
theorem dX5_put_16 : decode cX5_put 16 = .ok (.aload 4, 2) := by decide +kernel
theorem dX5_put_18 : decode cX5_put 18 = .ok (.ifnull 8, 3) := by decide +kernel
theorem dX5_put_21 : decode cX5_put 21 = .ok (.iload 5, 2) := by decide +kernel
theorem dX5_put_23 : decode cX5_put 23 = .ok (.ifCond .eq 6, 3) := by decide +kernel
theorem dX5_put_26 : decode cX5_put 26 = .ok (.iload 5, 2) := by decide +kernel
theorem dX5_put_28 : decode cX5_put 28 = .ok (.ireturn, 1) := by decide +kernel
theorem dX5_put_29 : decode cX5_put 29 = .ok (.aload 4, 2) := by decide +kernel
theorem dX5_put_31 : decode cX5_put 31 = .ok (.iload_n 2, 1) := by decide +kernel
theorem dX5_put_32 : decode cX5_put 32 = .ok (.invokevirtual 85, 3) := by decide +kernel
theorem dX5_put_35 : decode cX5_put 35 = .ok (.istore 6, 2) := by decide +kernel
theorem dX5_put_37 : decode cX5_put 37 = .ok (.aload 4, 2) := by decide +kernel
theorem dX5_put_39 : decode cX5_put 39 = .ok (.iload_n 2, 1) := by decide +kernel
theorem dX5_put_40 : decode cX5_put 40 = .ok (.iload_n 3, 1) := by decide +kernel
theorem dX5_put_41 : decode cX5_put 41 = .ok (.i2b, 1) := by decide +kernel
theorem dX5_put_42 : decode cX5_put 42 = .ok (.invokevirtual 89, 3) := by decide +kernel
theorem dX5_put_45 : decode cX5_put 45 = .ok (.iload 6, 2) := by decide +kernel
theorem dX5_put_47 : decode cX5_put 47 = .ok (.sipush 1000, 3) := by decide +kernel
theorem dX5_put_50 : decode cX5_put 50 = .ok (.iadd, 1) := by decide +kernel
theorem dX5_put_51 : decode cX5_put 51 = .ok (.ireturn, 1) := by decide +kernel
theorem dX5_fault_0 : decode cX5_fault 0 = .ok (.aload_n 0, 1) := by decide +kernel
theorem dX5_fault_1 : decode cX5_fault 1 = .ok (.iload_n 1, 1) := by decide +kernel
theorem dX5_fault_2 : decode cX5_fault 2 = .ok (.invokevirtual 126, 3) := by decide +kernel
theorem dX5_fault_5 : decode cX5_fault 5 = .ok (.astore_n 2, 1) := by decide +kernel
theorem dX5_fault_6 : decode cX5_fault 6 = .ok (.aload_n 0, 1) := by decide +kernel
theorem dX5_fault_7 : decode cX5_fault 7 = .ok (.aload_n 2, 1) := by decide +kernel
theorem dX5_fault_8 : decode cX5_fault 8 = .ok (.invokevirtual 96, 3) := by decide +kernel
theorem dX5_fault_11 : decode cX5_fault 11 = .ok (.istore_n 3, 1) := by decide +kernel
theorem dX5_fault_12 : decode cX5_fault 12 = .ok (.aload_n 2, 1) := by decide +kernel
theorem dX5_fault_13 : decode cX5_fault 13 = .ok (.ifnull 7, 3) := by decide +kernel
theorem dX5_fault_16 : decode cX5_fault 16 = .ok (.iload_n 3, 1) := by decide +kernel
theorem dX5_fault_17 : decode cX5_fault 17 = .ok (.ifCond .eq 7, 3) := by decide +kernel
theorem dX5_fault_20 : decode cX5_fault 20 = .ok (.iload_n 3, 1) := by decide +kernel
theorem dX5_fault_21 : decode cX5_fault 21 = .ok (.goto 11, 3) := by decide +kernel
theorem dX5_fault_24 : decode cX5_fault 24 = .ok (.aload_n 0, 1) := by decide +kernel
theorem dX5_fault_25 : decode cX5_fault 25 = .ok (.getfield 42, 3) := by decide +kernel
theorem dX5_fault_28 : decode cX5_fault 28 = .ok (.aload_n 2, 1) := by decide +kernel
theorem dX5_fault_29 : decode cX5_fault 29 = .ok (.invokevirtual 129, 3) := by decide +kernel
theorem dX5_fault_32 : decode cX5_fault 32 = .ok (.ireturn, 1) := by decide +kernel
theorem dX5_wall_0 : decode cX5_wall 0 = .ok (.aload_n 0, 1) := by decide +kernel
theorem dX5_wall_1 : decode cX5_wall 1 = .ok (.iload_n 1, 1) := by decide +kernel
theorem dX5_wall_2 : decode cX5_wall 2 = .ok (.invokevirtual 126, 3) := by decide +kernel
theorem dX5_wall_5 : decode cX5_wall 5 = .ok (.astore_n 2, 1) := by decide +kernel
theorem dX5_wall_6 : decode cX5_wall 6 = .ok (.aload_n 0, 1) := by decide +kernel
theorem dX5_wall_7 : decode cX5_wall 7 = .ok (.aload_n 2, 1) := by decide +kernel
theorem dX5_wall_8 : decode cX5_wall 8 = .ok (.invokevirtual 96, 3) := by decide +kernel
theorem dX5_wall_11 : decode cX5_wall 11 = .ok (.istore_n 3, 1) := by decide +kernel
theorem dX5_wall_12 : decode cX5_wall 12 = .ok (.aload_n 2, 1) := by decide +kernel
theorem dX5_wall_13 : decode cX5_wall 13 = .ok (.ifnull 7, 3) := by decide +kernel
theorem dX5_wall_16 : decode cX5_wall 16 = .ok (.iload_n 3, 1) := by decide +kernel
theorem dX5_wall_17 : decode cX5_wall 17 = .ok (.ifCond .eq 5, 3) := by decide +kernel
theorem dX5_wall_20 : decode cX5_wall 20 = .ok (.iload_n 3, 1) := by decide +kernel
theorem dX5_wall_21 : decode cX5_wall 21 = .ok (.ireturn, 1) := by decide +kernel
theorem dX5_wall_22 : decode cX5_wall 22 = .ok (.aload_n 0, 1) := by decide +kernel
theorem dX5_wall_23 : decode cX5_wall 23 = .ok (.getfield 42, 3) := by decide +kernel
theorem dX5_wall_26 : decode cX5_wall 26 = .ok (.aload_n 2, 1) := by decide +kernel
theorem dX5_wall_27 : decode cX5_wall 27 = .ok (.invokevirtual 129, 3) := by decide +kernel
theorem dX5_wall_30 : decode cX5_wall 30 = .ok (.bipush (-9), 2) := by decide +kernel
theorem dX5_wall_32 : decode cX5_wall 32 = .ok (.if_icmp .eq 6, 3) := by decide +kernel
theorem dX5_wall_35 : decode cX5_wall 35 = .ok (.bipush (-4), 2) := by decide +kernel
theorem dX5_wall_37 : decode cX5_wall 37 = .ok (.ireturn, 1) := by decide +kernel
theorem dX5_wall_38 : decode cX5_wall 38 = .ok (.aload_n 0, 1) := by decide +kernel
theorem dX5_wall_39 : decode cX5_wall 39 = .ok (.getfield 32, 3) := by decide +kernel
theorem dX5_wall_42 : decode cX5_wall 42 = .ok (.aload_n 0, 1) := by decide +kernel
theorem dX5_wall_43 : decode cX5_wall 43 = .ok (.getfield 42, 3) := by decide +kernel
theorem dX5_wall_46 : decode cX5_wall 46 = .ok (.getfield 132, 3) := by decide +kernel
theorem dX5_wall_49 : decode cX5_wall 49 = .ok (.invokevirtual 133, 3) := by decide +kernel
theorem dX5_wall_52 : decode cX5_wall 52 = .ok (.aload_n 0, 1) := by decide +kernel
theorem dX5_wall_53 : decode cX5_wall 53 = .ok (.getfield 25, 3) := by decide +kernel
theorem dX5_wall_56 : decode cX5_wall 56 = .ok (.aload_n 0, 1) := by decide +kernel
theorem dX5_wall_57 : decode cX5_wall 57 = .ok (.getfield 42, 3) := by decide +kernel
theorem dX5_wall_60 : decode cX5_wall 60 = .ok (.getfield 137, 3) := by decide +kernel
theorem dX5_wall_63 : decode cX5_wall 63 = .ok (.invokevirtual 140, 3) := by decide +kernel
theorem dX5_wall_66 : decode cX5_wall 66 = .ok (.iconst 0, 1) := by decide +kernel
theorem dX5_wall_67 : decode cX5_wall 67 = .ok (.istore 4, 2) := by decide +kernel
theorem dX5_wall_69 : decode cX5_wall 69 = .ok (.iload 4, 2) := by decide +kernel
theorem dX5_wall_71 : decode cX5_wall 71 = .ok (.iconst 3, 1) := by decide +kernel
theorem dX5_wall_72 : decode cX5_wall 72 = .ok (.if_icmp .ge 19, 3) := by decide +kernel
theorem dX5_wall_75 : decode cX5_wall 75 = .ok (.aload_n 0, 1) := by decide +kernel
theorem dX5_wall_76 : decode cX5_wall 76 = .ok (.getfield 20, 3) := by decide +kernel
theorem dX5_wall_79 : decode cX5_wall 79 = .ok (.iload 4, 2) := by decide +kernel
theorem dX5_wall_81 : decode cX5_wall 81 = .ok (.aaload, 1) := by decide +kernel
theorem dX5_wall_82 : decode cX5_wall 82 = .ok (.invokevirtual 143, 3) := by decide +kernel
theorem dX5_wall_85 : decode cX5_wall 85 = .ok (.iinc 4 1, 3) := by decide +kernel
theorem dX5_wall_88 : decode cX5_wall 88 = .ok (.goto (-19), 3) := by decide +kernel
theorem dX5_wall_91 : decode cX5_wall 91 = .ok (.bipush 9, 2) := by decide +kernel
theorem dX5_wall_93 : decode cX5_wall 93 = .ok (.ireturn, 1) := by decide +kernel
theorem dX5_lamp_0 : decode cX5_lamp 0 = .ok (.aload_n 0, 1) := by decide +kernel
theorem dX5_lamp_1 : decode cX5_lamp 1 = .ok (.iload_n 1, 1) := by decide +kernel
theorem dX5_lamp_2 : decode cX5_lamp 2 = .ok (.invokevirtual 146, 3) := by decide +kernel
theorem dX5_lamp_5 : decode cX5_lamp 5 = .ok (.ifCond .eq 13, 3) := by decide +kernel
theorem dX5_lamp_8 : decode cX5_lamp 8 = .ok (.iload_n 2, 1) := by decide +kernel
theorem dX5_lamp_9 : decode cX5_lamp 9 = .ok (.ifCond .lt 9, 3) := by decide +kernel
theorem dX5_lamp_12 : decode cX5_lamp 12 = .ok (.iload_n 2, 1) := by decide +kernel
theorem dX5_lamp_13 : decode cX5_lamp 13 = .ok (.bipush 6, 2) := by decide +kernel
theorem dX5_lamp_15 : decode cX5_lamp 15 = .ok (.if_icmp .lt 5, 3) := by decide +kernel
theorem dX5_lamp_18 : decode cX5_lamp 18 = .ok (.iconst (-1), 1) := by decide +kernel
theorem dX5_lamp_19 : decode cX5_lamp 19 = .ok (.ireturn, 1) := by decide +kernel
theorem dX5_lamp_20 : decode cX5_lamp 20 = .ok (.aload_n 0, 1) := by decide +kernel
theorem dX5_lamp_21 : decode cX5_lamp 21 = .ok (.aload_n 0, 1) := by decide +kernel
theorem dX5_lamp_22 : decode cX5_lamp 22 = .ok (.iload_n 1, 1) := by decide +kernel
theorem dX5_lamp_23 : decode cX5_lamp 23 = .ok (.iload_n 2, 1) := by decide +kernel
theorem dX5_lamp_24 : decode cX5_lamp 24 = .ok (.invokevirtual 150, 3) := by decide +kernel
theorem dX5_lamp_27 : decode cX5_lamp 27 = .ok (.invokevirtual 93, 3) := by decide +kernel
theorem dX5_lamp_30 : decode cX5_lamp 30 = .ok (.ireturn, 1) := by decide +kernel
theorem dX5_mark_0 : decode cX5_mark 0 = .ok (.aload_n 0, 1) := by decide +kernel
theorem dX5_mark_1 : decode cX5_mark 1 = .ok (.iload_n 1, 1) := by decide +kernel
theorem dX5_mark_2 : decode cX5_mark 2 = .ok (.invokevirtual 146, 3) := by decide +kernel
theorem dX5_mark_5 : decode cX5_mark 5 = .ok (.ifCond .eq 13, 3) := by decide +kernel
theorem dX5_mark_8 : decode cX5_mark 8 = .ok (.iload_n 2, 1) := by decide +kernel
theorem dX5_mark_9 : decode cX5_mark 9 = .ok (.ifCond .le 9, 3) := by decide +kernel
theorem dX5_mark_12 : decode cX5_mark 12 = .ok (.iload_n 2, 1) := by decide +kernel
theorem dX5_mark_13 : decode cX5_mark 13 = .ok (.bipush 6, 2) := by decide +kernel
theorem dX5_mark_15 : decode cX5_mark 15 = .ok (.if_icmp .lt 5, 3) := by decide +kernel
theorem dX5_mark_18 : decode cX5_mark 18 = .ok (.iconst (-1), 1) := by decide +kernel
theorem dX5_mark_19 : decode cX5_mark 19 = .ok (.ireturn, 1) := by decide +kernel
theorem dX5_mark_20 : decode cX5_mark 20 = .ok (.aload_n 0, 1) := by decide +kernel
theorem dX5_mark_21 : decode cX5_mark 21 = .ok (.getfield 32, 3) := by decide +kernel
theorem dX5_mark_24 : decode cX5_mark 24 = .ok (.iload_n 1, 1) := by decide +kernel
theorem dX5_mark_25 : decode cX5_mark 25 = .ok (.invokevirtual 154, 3) := by decide +kernel
theorem dX5_mark_28 : decode cX5_mark 28 = .ok (.iload_n 2, 1) := by decide +kernel
theorem dX5_mark_29 : decode cX5_mark 29 = .ok (.invokestatic 157, 3) := by decide +kernel
theorem dX5_mark_32 : decode cX5_mark 32 = .ok (.ifCond .ne 9, 3) := by decide +kernel
theorem dX5_mark_35 : decode cX5_mark 35 = .ok (.aload_n 0, 1) := by decide +kernel
theorem dX5_mark_36 : decode cX5_mark 36 = .ok (.iconst 3, 1) := by decide +kernel
theorem dX5_mark_37 : decode cX5_mark 37 = .ok (.invokevirtual 103, 3) := by decide +kernel
theorem dX5_mark_40 : decode cX5_mark 40 = .ok (.ireturn, 1) := by decide +kernel
theorem dX5_mark_41 : decode cX5_mark 41 = .ok (.aload_n 0, 1) := by decide +kernel
theorem dX5_mark_42 : decode cX5_mark 42 = .ok (.getfield 25, 3) := by decide +kernel
theorem dX5_mark_45 : decode cX5_mark 45 = .ok (.invokevirtual 160, 3) := by decide +kernel
theorem dX5_mark_48 : decode cX5_mark 48 = .ok (.istore_n 3, 1) := by decide +kernel
theorem dX5_mark_49 : decode cX5_mark 49 = .ok (.iload_n 2, 1) := by decide +kernel
theorem dX5_mark_50 : decode cX5_mark 50 = .ok (.tableswitch 78 1 4 #[30, 40, 58, 68], 30) := by decide +kernel
theorem dX5_mark_80 : decode cX5_mark 80 = .ok (.iconst 3, 1) := by decide +kernel
theorem dX5_mark_81 : decode cX5_mark 81 = .ok (.iload_n 3, 1) := by decide +kernel
theorem dX5_mark_82 : decode cX5_mark 82 = .ok (.iload_n 1, 1) := by decide +kernel
theorem dX5_mark_83 : decode cX5_mark 83 = .ok (.invokestatic 162, 3) := by decide +kernel
theorem dX5_mark_86 : decode cX5_mark 86 = .ok (.isub, 1) := by decide +kernel
theorem dX5_mark_87 : decode cX5_mark 87 = .ok (.iconst 3, 1) := by decide +kernel
theorem dX5_mark_88 : decode cX5_mark 88 = .ok (.irem, 1) := by decide +kernel
theorem dX5_mark_89 : decode cX5_mark 89 = .ok (.ireturn, 1) := by decide +kernel
theorem dX5_mark_90 : decode cX5_mark 90 = .ok (.aload_n 0, 1) := by decide +kernel
theorem dX5_mark_91 : decode cX5_mark 91 = .ok (.getfield 32, 3) := by decide +kernel
theorem dX5_mark_94 : decode cX5_mark 94 = .ok (.getfield 167, 3) := by decide +kernel
theorem dX5_mark_97 : decode cX5_mark 97 = .ok (.iload_n 3, 1) := by decide +kernel
theorem dX5_mark_98 : decode cX5_mark 98 = .ok (.invokestatic 170, 3) := by decide +kernel
theorem dX5_mark_101 : decode cX5_mark 101 = .ok (.iconst (-1), 1) := by decide +kernel
theorem dX5_mark_102 : decode cX5_mark 102 = .ok (.ixor, 1) := by decide +kernel
theorem dX5_mark_103 : decode cX5_mark 103 = .ok (.iand, 1) := by decide +kernel
theorem dX5_mark_104 : decode cX5_mark 104 = .ok (.invokestatic 173, 3) := by decide +kernel
theorem dX5_mark_107 : decode cX5_mark 107 = .ok (.ireturn, 1) := by decide +kernel
theorem dX5_mark_108 : decode cX5_mark 108 = .ok (.iload_n 1, 1) := by decide +kernel
theorem dX5_mark_109 : decode cX5_mark 109 = .ok (.invokestatic 178, 3) := by decide +kernel
theorem dX5_mark_112 : decode cX5_mark 112 = .ok (.invokestatic 173, 3) := by decide +kernel
theorem dX5_mark_115 : decode cX5_mark 115 = .ok (.iconst 1, 1) := by decide +kernel
theorem dX5_mark_116 : decode cX5_mark 116 = .ok (.isub, 1) := by decide +kernel
theorem dX5_mark_117 : decode cX5_mark 117 = .ok (.ireturn, 1) := by decide +kernel
theorem dX5_mark_118 : decode cX5_mark 118 = .ok (.aload_n 0, 1) := by decide +kernel
theorem dX5_mark_119 : decode cX5_mark 119 = .ok (.getfield 25, 3) := by decide +kernel
theorem dX5_mark_122 : decode cX5_mark 122 = .ok (.invokevirtual 181, 3) := by decide +kernel
theorem dX5_mark_125 : decode cX5_mark 125 = .ok (.iconst 2, 1) := by decide +kernel
theorem dX5_mark_126 : decode cX5_mark 126 = .ok (.irem, 1) := by decide +kernel
theorem dX5_mark_127 : decode cX5_mark 127 = .ok (.ireturn, 1) := by decide +kernel
theorem dX5_mark_128 : decode cX5_mark 128 = .ok (.aload_n 0, 1) := by decide +kernel
theorem dX5_mark_129 : decode cX5_mark 129 = .ok (.getfield 32, 3) := by decide +kernel
theorem dX5_mark_132 : decode cX5_mark 132 = .ok (.iload_n 3, 1) := by decide +kernel
theorem dX5_mark_133 : decode cX5_mark 133 = .ok (.invokevirtual 184, 3) := by decide +kernel
theorem dX5_mark_136 : decode cX5_mark 136 = .ok (.iconst 1, 1) := by decide +kernel
theorem dX5_mark_137 : decode cX5_mark 137 = .ok (.iload_n 1, 1) := by decide +kernel
theorem dX5_mark_138 : decode cX5_mark 138 = .ok (.ishl, 1) := by decide +kernel
theorem dX5_mark_139 : decode cX5_mark 139 = .ok (.iconst (-1), 1) := by decide +kernel
theorem dX5_mark_140 : decode cX5_mark 140 = .ok (.ixor, 1) := by decide +kernel
theorem dX5_mark_141 : decode cX5_mark 141 = .ok (.iand, 1) := by decide +kernel
theorem dX5_mark_142 : decode cX5_mark 142 = .ok (.invokestatic 173, 3) := by decide +kernel
theorem dX5_mark_145 : decode cX5_mark 145 = .ok (.ireturn, 1) := by decide +kernel
theorem dX5_press_0 : decode cX5_press 0 = .ok (.aload_n 0, 1) := by decide +kernel
theorem dX5_press_1 : decode cX5_press 1 = .ok (.getfield 25, 3) := by decide +kernel
theorem dX5_press_4 : decode cX5_press 4 = .ok (.invokevirtual 187, 3) := by decide +kernel
theorem dX5_press_7 : decode cX5_press 7 = .ok (.ifCond .ne 6, 3) := by decide +kernel
theorem dX5_press_10 : decode cX5_press 10 = .ok (.bipush (-4), 2) := by decide +kernel
theorem dX5_press_12 : decode cX5_press 12 = .ok (.ireturn, 1) := by decide +kernel
theorem dX5_press_13 : decode cX5_press 13 = .ok (.aload_n 0, 1) := by decide +kernel
theorem dX5_press_14 : decode cX5_press 14 = .ok (.iload_n 1, 1) := by decide +kernel
theorem dX5_press_15 : decode cX5_press 15 = .ok (.invokevirtual 146, 3) := by decide +kernel
theorem dX5_press_18 : decode cX5_press 18 = .ok (.ifCond .ne 5, 3) := by decide +kernel
theorem dX5_press_21 : decode cX5_press 21 = .ok (.iconst (-1), 1) := by decide +kernel
theorem dX5_press_22 : decode cX5_press 22 = .ok (.ireturn, 1) := by decide +kernel
theorem dX5_press_23 : decode cX5_press 23 = .ok (.aload_n 0, 1) := by decide +kernel
theorem dX5_press_24 : decode cX5_press 24 = .ok (.getfield 25, 3) := by decide +kernel
theorem dX5_press_27 : decode cX5_press 27 = .ok (.invokevirtual 188, 3) := by decide +kernel
theorem dX5_press_30 : decode cX5_press 30 = .ok (.iconst 1, 1) := by decide +kernel
theorem dX5_press_31 : decode cX5_press 31 = .ok (.if_icmp .ge 6, 3) := by decide +kernel
theorem dX5_press_34 : decode cX5_press 34 = .ok (.bipush (-2), 2) := by decide +kernel
theorem dX5_press_36 : decode cX5_press 36 = .ok (.ireturn, 1) := by decide +kernel
theorem dX5_press_37 : decode cX5_press 37 = .ok (.aload_n 0, 1) := by decide +kernel
theorem dX5_press_38 : decode cX5_press 38 = .ok (.iload_n 1, 1) := by decide +kernel
theorem dX5_press_39 : decode cX5_press 39 = .ok (.invokevirtual 191, 3) := by decide +kernel
theorem dX5_press_42 : decode cX5_press 42 = .ok (.aload_n 0, 1) := by decide +kernel
theorem dX5_press_43 : decode cX5_press 43 = .ok (.getfield 32, 3) := by decide +kernel
theorem dX5_press_46 : decode cX5_press 46 = .ok (.aload_n 0, 1) := by decide +kernel
theorem dX5_press_47 : decode cX5_press 47 = .ok (.getfield 25, 3) := by decide +kernel
theorem dX5_press_50 : decode cX5_press 50 = .ok (.invokevirtual 160, 3) := by decide +kernel
theorem dX5_press_53 : decode cX5_press 53 = .ok (.invokevirtual 184, 3) := by decide +kernel
theorem dX5_press_56 : decode cX5_press 56 = .ok (.ireturn, 1) := by decide +kernel
theorem dX5_set_0 : decode cX5_set 0 = .ok (.aload_n 0, 1) := by decide +kernel
theorem dX5_set_1 : decode cX5_set 1 = .ok (.iload_n 1, 1) := by decide +kernel
theorem dX5_set_2 : decode cX5_set 2 = .ok (.invokevirtual 146, 3) := by decide +kernel
theorem dX5_set_5 : decode cX5_set 5 = .ok (.ifCond .eq 12, 3) := by decide +kernel
theorem dX5_set_8 : decode cX5_set 8 = .ok (.aload_n 0, 1) := by decide +kernel
theorem dX5_set_9 : decode cX5_set 9 = .ok (.iload_n 1, 1) := by decide +kernel
theorem dX5_set_10 : decode cX5_set 10 = .ok (.iload_n 2, 1) := by decide +kernel
theorem dX5_set_11 : decode cX5_set 11 = .ok (.invokevirtual 194, 3) := by decide +kernel
theorem dX5_set_14 : decode cX5_set 14 = .ok (.ifCond .ne 5, 3) := by decide +kernel
theorem dX5_set_17 : decode cX5_set 17 = .ok (.iconst (-1), 1) := by decide +kernel
theorem dX5_set_18 : decode cX5_set 18 = .ok (.ireturn, 1) := by decide +kernel
theorem dX5_set_19 : decode cX5_set 19 = .ok (.aload_n 0, 1) := by decide +kernel
theorem dX5_set_20 : decode cX5_set 20 = .ok (.getfield 25, 3) := by decide +kernel
theorem dX5_set_23 : decode cX5_set 23 = .ok (.invokevirtual 160, 3) := by decide +kernel
theorem dX5_set_26 : decode cX5_set 26 = .ok (.iload_n 1, 1) := by decide +kernel
theorem dX5_set_27 : decode cX5_set 27 = .ok (.invokestatic 162, 3) := by decide +kernel
theorem dX5_set_30 : decode cX5_set 30 = .ok (.istore_n 3, 1) := by decide +kernel
theorem dX5_set_31 : decode cX5_set 31 = .ok (.iload_n 3, 1) := by decide +kernel
theorem dX5_set_32 : decode cX5_set 32 = .ok (.iload_n 2, 1) := by decide +kernel
theorem dX5_set_33 : decode cX5_set 33 = .ok (.if_icmp .ne 6, 3) := by decide +kernel
theorem dX5_set_36 : decode cX5_set 36 = .ok (.bipush (-4), 2) := by decide +kernel
theorem dX5_set_38 : decode cX5_set 38 = .ok (.ireturn, 1) := by decide +kernel
theorem dX5_set_39 : decode cX5_set 39 = .ok (.aload_n 0, 1) := by decide +kernel
theorem dX5_set_40 : decode cX5_set 40 = .ok (.getfield 25, 3) := by decide +kernel
theorem dX5_set_43 : decode cX5_set 43 = .ok (.invokevirtual 188, 3) := by decide +kernel
theorem dX5_set_46 : decode cX5_set 46 = .ok (.iconst 1, 1) := by decide +kernel
theorem dX5_set_47 : decode cX5_set 47 = .ok (.if_icmp .ge 6, 3) := by decide +kernel
theorem dX5_set_50 : decode cX5_set 50 = .ok (.bipush (-2), 2) := by decide +kernel
theorem dX5_set_52 : decode cX5_set 52 = .ok (.ireturn, 1) := by decide +kernel
theorem dX5_set_53 : decode cX5_set 53 = .ok (.aload_n 0, 1) := by decide +kernel
theorem dX5_set_54 : decode cX5_set 54 = .ok (.iload_n 1, 1) := by decide +kernel
theorem dX5_set_55 : decode cX5_set 55 = .ok (.iload_n 2, 1) := by decide +kernel
theorem dX5_set_56 : decode cX5_set 56 = .ok (.invokevirtual 197, 3) := by decide +kernel
theorem dX5_set_59 : decode cX5_set 59 = .ok (.iload_n 3, 1) := by decide +kernel
theorem dX5_set_60 : decode cX5_set 60 = .ok (.ireturn, 1) := by decide +kernel
theorem dX5_crack_0 : decode cX5_crack 0 = .ok (.aload_n 0, 1) := by decide +kernel
theorem dX5_crack_1 : decode cX5_crack 1 = .ok (.iload_n 1, 1) := by decide +kernel
theorem dX5_crack_2 : decode cX5_crack 2 = .ok (.invokevirtual 146, 3) := by decide +kernel
theorem dX5_crack_5 : decode cX5_crack 5 = .ok (.ifCond .ne 5, 3) := by decide +kernel
theorem dX5_crack_8 : decode cX5_crack 8 = .ok (.iconst (-1), 1) := by decide +kernel
theorem dX5_crack_9 : decode cX5_crack 9 = .ok (.ireturn, 1) := by decide +kernel
theorem dX5_crack_10 : decode cX5_crack 10 = .ok (.aload_n 0, 1) := by decide +kernel
theorem dX5_crack_11 : decode cX5_crack 11 = .ok (.getfield 25, 3) := by decide +kernel
theorem dX5_crack_14 : decode cX5_crack 14 = .ok (.invokevirtual 188, 3) := by decide +kernel
theorem dX5_crack_17 : decode cX5_crack 17 = .ok (.iconst 1, 1) := by decide +kernel
theorem dX5_crack_18 : decode cX5_crack 18 = .ok (.if_icmp .ge 6, 3) := by decide +kernel
theorem dX5_crack_21 : decode cX5_crack 21 = .ok (.bipush (-2), 2) := by decide +kernel
theorem dX5_crack_23 : decode cX5_crack 23 = .ok (.ireturn, 1) := by decide +kernel
theorem dX5_crack_24 : decode cX5_crack 24 = .ok (.aload_n 0, 1) := by decide +kernel
theorem dX5_crack_25 : decode cX5_crack 25 = .ok (.iload_n 1, 1) := by decide +kernel
theorem dX5_crack_26 : decode cX5_crack 26 = .ok (.invokevirtual 200, 3) := by decide +kernel
theorem dX5_crack_29 : decode cX5_crack 29 = .ok (.aload_n 0, 1) := by decide +kernel
theorem dX5_crack_30 : decode cX5_crack 30 = .ok (.getfield 25, 3) := by decide +kernel
theorem dX5_crack_33 : decode cX5_crack 33 = .ok (.invokevirtual 160, 3) := by decide +kernel
theorem dX5_crack_36 : decode cX5_crack 36 = .ok (.invokestatic 203, 3) := by decide +kernel
theorem dX5_crack_39 : decode cX5_crack 39 = .ok (.iload_n 1, 1) := by decide +kernel
theorem dX5_crack_40 : decode cX5_crack 40 = .ok (.ishr, 1) := by decide +kernel
theorem dX5_crack_41 : decode cX5_crack 41 = .ok (.iconst 1, 1) := by decide +kernel
theorem dX5_crack_42 : decode cX5_crack 42 = .ok (.iand, 1) := by decide +kernel
theorem dX5_crack_43 : decode cX5_crack 43 = .ok (.ireturn, 1) := by decide +kernel
theorem dX5_undo_0 : decode cX5_undo 0 = .ok (.aload_n 0, 1) := by decide +kernel
theorem dX5_undo_1 : decode cX5_undo 1 = .ok (.getfield 25, 3) := by decide +kernel
theorem dX5_undo_4 : decode cX5_undo 4 = .ok (.invokevirtual 206, 3) := by decide +kernel
theorem dX5_undo_7 : decode cX5_undo 7 = .ok (.iload_n 1, 1) := by decide +kernel
theorem dX5_undo_8 : decode cX5_undo 8 = .ok (.isub, 1) := by decide +kernel
theorem dX5_undo_9 : decode cX5_undo 9 = .ok (.istore_n 2, 1) := by decide +kernel
theorem dX5_undo_10 : decode cX5_undo 10 = .ok (.iload_n 1, 1) := by decide +kernel
theorem dX5_undo_11 : decode cX5_undo 11 = .ok (.ifCond .lt 7, 3) := by decide +kernel
theorem dX5_undo_14 : decode cX5_undo 14 = .ok (.iload_n 2, 1) := by decide +kernel
theorem dX5_undo_15 : decode cX5_undo 15 = .ok (.ifCond .ge 5, 3) := by decide +kernel
theorem dX5_undo_18 : decode cX5_undo 18 = .ok (.iconst (-1), 1) := by decide +kernel
theorem dX5_undo_19 : decode cX5_undo 19 = .ok (.ireturn, 1) := by decide +kernel
theorem dX5_undo_20 : decode cX5_undo 20 = .ok (.aload_n 0, 1) := by decide +kernel
theorem dX5_undo_21 : decode cX5_undo 21 = .ok (.getfield 25, 3) := by decide +kernel
theorem dX5_undo_24 : decode cX5_undo 24 = .ok (.iload_n 1, 1) := by decide +kernel
theorem dX5_undo_25 : decode cX5_undo 25 = .ok (.invokevirtual 209, 3) := by decide +kernel
theorem dX5_undo_28 : decode cX5_undo 28 = .ok (.iload_n 2, 1) := by decide +kernel
theorem dX5_undo_29 : decode cX5_undo 29 = .ok (.ireturn, 1) := by decide +kernel
theorem dX5_keep_0 : decode cX5_keep 0 = .ok (.aload_n 0, 1) := by decide +kernel
theorem dX5_keep_1 : decode cX5_keep 1 = .ok (.iload_n 1, 1) := by decide +kernel
theorem dX5_keep_2 : decode cX5_keep 2 = .ok (.invokevirtual 212, 3) := by decide +kernel
theorem dX5_keep_5 : decode cX5_keep 5 = .ok (.astore_n 2, 1) := by decide +kernel
theorem dX5_keep_6 : decode cX5_keep 6 = .ok (.aload_n 2, 1) := by decide +kernel
theorem dX5_keep_7 : decode cX5_keep 7 = .ok (.ifnonnull 5, 3) := by decide +kernel
theorem dX5_keep_10 : decode cX5_keep 10 = .ok (.iconst (-1), 1) := by decide +kernel
theorem dX5_keep_11 : decode cX5_keep 11 = .ok (.ireturn, 1) := by decide +kernel
theorem dX5_keep_12 : decode cX5_keep 12 = .ok (.aload_n 0, 1) := by decide +kernel
theorem dX5_keep_13 : decode cX5_keep 13 = .ok (.getfield 25, 3) := by decide +kernel
theorem dX5_keep_16 : decode cX5_keep 16 = .ok (.invokevirtual 187, 3) := by decide +kernel
theorem dX5_keep_19 : decode cX5_keep 19 = .ok (.ifCond .ne 6, 3) := by decide +kernel
theorem dX5_keep_22 : decode cX5_keep 22 = .ok (.bipush (-4), 2) := by decide +kernel
theorem dX5_keep_24 : decode cX5_keep 24 = .ok (.ireturn, 1) := by decide +kernel
theorem dX5_keep_25 : decode cX5_keep 25 = .ok (.aload_n 2, 1) := by decide +kernel
theorem dX5_keep_26 : decode cX5_keep 26 = .ok (.aload_n 0, 1) := by decide +kernel
theorem dX5_keep_27 : decode cX5_keep 27 = .ok (.getfield 25, 3) := by decide +kernel
theorem dX5_keep_30 : decode cX5_keep 30 = .ok (.invokevirtual 216, 3) := by decide +kernel
theorem dX5_keep_33 : decode cX5_keep 33 = .ok (.aload_n 0, 1) := by decide +kernel
theorem dX5_keep_34 : decode cX5_keep 34 = .ok (.getfield 25, 3) := by decide +kernel
theorem dX5_keep_37 : decode cX5_keep 37 = .ok (.invokevirtual 206, 3) := by decide +kernel
theorem dX5_keep_40 : decode cX5_keep 40 = .ok (.ireturn, 1) := by decide +kernel
theorem dX5_on_0 : decode cX5_on 0 = .ok (.aload_n 0, 1) := by decide +kernel
theorem dX5_on_1 : decode cX5_on 1 = .ok (.iload_n 1, 1) := by decide +kernel
theorem dX5_on_2 : decode cX5_on 2 = .ok (.invokevirtual 212, 3) := by decide +kernel
theorem dX5_on_5 : decode cX5_on 5 = .ok (.astore_n 2, 1) := by decide +kernel
theorem dX5_on_6 : decode cX5_on 6 = .ok (.aload_n 2, 1) := by decide +kernel
theorem dX5_on_7 : decode cX5_on 7 = .ok (.ifnonnull 5, 3) := by decide +kernel
theorem dX5_on_10 : decode cX5_on 10 = .ok (.iconst (-1), 1) := by decide +kernel
theorem dX5_on_11 : decode cX5_on 11 = .ok (.ireturn, 1) := by decide +kernel
theorem dX5_on_12 : decode cX5_on 12 = .ok (.aload_n 2, 1) := by decide +kernel
theorem dX5_on_13 : decode cX5_on 13 = .ok (.invokevirtual 187, 3) := by decide +kernel
theorem dX5_on_16 : decode cX5_on 16 = .ok (.ifCond .ne 9, 3) := by decide +kernel
theorem dX5_on_19 : decode cX5_on 19 = .ok (.aload_n 0, 1) := by decide +kernel
theorem dX5_on_20 : decode cX5_on 20 = .ok (.iconst 1, 1) := by decide +kernel
theorem dX5_on_21 : decode cX5_on 21 = .ok (.invokevirtual 103, 3) := by decide +kernel
theorem dX5_on_24 : decode cX5_on 24 = .ok (.ireturn, 1) := by decide +kernel
theorem dX5_on_25 : decode cX5_on 25 = .ok (.aload_n 0, 1) := by decide +kernel
theorem dX5_on_26 : decode cX5_on 26 = .ok (.getfield 25, 3) := by decide +kernel
theorem dX5_on_29 : decode cX5_on 29 = .ok (.aload_n 2, 1) := by decide +kernel
theorem dX5_on_30 : decode cX5_on 30 = .ok (.invokevirtual 216, 3) := by decide +kernel
theorem dX5_on_33 : decode cX5_on 33 = .ok (.aload_n 0, 1) := by decide +kernel
theorem dX5_on_34 : decode cX5_on 34 = .ok (.getfield 25, 3) := by decide +kernel
theorem dX5_on_37 : decode cX5_on 37 = .ok (.invokevirtual 206, 3) := by decide +kernel
theorem dX5_on_40 : decode cX5_on 40 = .ok (.ireturn, 1) := by decide +kernel
theorem dX5_touched_0 : decode cX5_touched 0 = .ok (.aload_n 0, 1) := by decide +kernel
theorem dX5_touched_1 : decode cX5_touched 1 = .ok (.iload_n 1, 1) := by decide +kernel
theorem dX5_touched_2 : decode cX5_touched 2 = .ok (.invokevirtual 146, 3) := by decide +kernel
theorem dX5_touched_5 : decode cX5_touched 5 = .ok (.ifCond .eq 12, 3) := by decide +kernel
theorem dX5_touched_8 : decode cX5_touched 8 = .ok (.aload_n 0, 1) := by decide +kernel
theorem dX5_touched_9 : decode cX5_touched 9 = .ok (.iload_n 1, 1) := by decide +kernel
theorem dX5_touched_10 : decode cX5_touched 10 = .ok (.iload_n 2, 1) := by decide +kernel
theorem dX5_touched_11 : decode cX5_touched 11 = .ok (.invokevirtual 194, 3) := by decide +kernel
theorem dX5_touched_14 : decode cX5_touched 14 = .ok (.ifCond .ne 5, 3) := by decide +kernel
theorem dX5_touched_17 : decode cX5_touched 17 = .ok (.iconst (-1), 1) := by decide +kernel
theorem dX5_touched_18 : decode cX5_touched 18 = .ok (.ireturn, 1) := by decide +kernel
theorem dX5_touched_19 : decode cX5_touched 19 = .ok (.iload_n 3, 1) := by decide +kernel
theorem dX5_touched_20 : decode cX5_touched 20 = .ok (.ifCond .lt 21, 3) := by decide +kernel
theorem dX5_touched_23 : decode cX5_touched 23 = .ok (.iload_n 3, 1) := by decide +kernel
theorem dX5_touched_24 : decode cX5_touched 24 = .ok (.iconst 1, 1) := by decide +kernel
theorem dX5_touched_25 : decode cX5_touched 25 = .ok (.if_icmp .gt 16, 3) := by decide +kernel
theorem dX5_touched_28 : decode cX5_touched 28 = .ok (.iload 4, 2) := by decide +kernel
theorem dX5_touched_30 : decode cX5_touched 30 = .ok (.ifCond .lt 11, 3) := by decide +kernel
theorem dX5_touched_33 : decode cX5_touched 33 = .ok (.iload 4, 2) := by decide +kernel
theorem dX5_touched_35 : decode cX5_touched 35 = .ok (.sipush 999, 3) := by decide +kernel
theorem dX5_touched_38 : decode cX5_touched 38 = .ok (.if_icmp .le 5, 3) := by decide +kernel
theorem dX5_touched_41 : decode cX5_touched 41 = .ok (.iconst (-1), 1) := by decide +kernel
theorem dX5_touched_42 : decode cX5_touched 42 = .ok (.ireturn, 1) := by decide +kernel
theorem dX5_touched_43 : decode cX5_touched 43 = .ok (.aload_n 0, 1) := by decide +kernel
theorem dX5_touched_44 : decode cX5_touched 44 = .ok (.getfield 25, 3) := by decide +kernel
theorem dX5_touched_47 : decode cX5_touched 47 = .ok (.invokevirtual 160, 3) := by decide +kernel
theorem dX5_touched_50 : decode cX5_touched 50 = .ok (.iload_n 1, 1) := by decide +kernel
theorem dX5_touched_51 : decode cX5_touched 51 = .ok (.iload_n 2, 1) := by decide +kernel
theorem dX5_touched_52 : decode cX5_touched 52 = .ok (.invokestatic 219, 3) := by decide +kernel
theorem dX5_touched_55 : decode cX5_touched 55 = .ok (.istore 5, 2) := by decide +kernel
theorem dX5_touched_57 : decode cX5_touched 57 = .ok (.aload_n 0, 1) := by decide +kernel
theorem dX5_touched_58 : decode cX5_touched 58 = .ok (.getfield 32, 3) := by decide +kernel
theorem dX5_touched_61 : decode cX5_touched 61 = .ok (.iload 5, 2) := by decide +kernel
theorem dX5_touched_63 : decode cX5_touched 63 = .ok (.iconst 1, 1) := by decide +kernel
theorem dX5_touched_64 : decode cX5_touched 64 = .ok (.iload_n 1, 1) := by decide +kernel
theorem dX5_touched_65 : decode cX5_touched 65 = .ok (.ishl, 1) := by decide +kernel
theorem dX5_touched_66 : decode cX5_touched 66 = .ok (.iload_n 3, 1) := by decide +kernel
theorem dX5_touched_67 : decode cX5_touched 67 = .ok (.iload_n 1, 1) := by decide +kernel
theorem dX5_touched_68 : decode cX5_touched 68 = .ok (.ishl, 1) := by decide +kernel
theorem dX5_touched_69 : decode cX5_touched 69 = .ok (.iload 4, 2) := by decide +kernel
theorem dX5_touched_71 : decode cX5_touched 71 = .ok (.invokevirtual 223, 3) := by decide +kernel
theorem dX5_touched_74 : decode cX5_touched 74 = .ok (.iload_n 1, 1) := by decide +kernel
theorem dX5_touched_75 : decode cX5_touched 75 = .ok (.invokestatic 162, 3) := by decide +kernel
theorem dX5_touched_78 : decode cX5_touched 78 = .ok (.ireturn, 1) := by decide +kernel
theorem dX5_shows_0 : decode cX5_shows 0 = .ok (.aload_n 0, 1) := by decide +kernel
theorem dX5_shows_1 : decode cX5_shows 1 = .ok (.getfield 25, 3) := by decide +kernel
theorem dX5_shows_4 : decode cX5_shows 4 = .ok (.invokevirtual 187, 3) := by decide +kernel
theorem dX5_shows_7 : decode cX5_shows 7 = .ok (.ifCond .ne 6, 3) := by decide +kernel
theorem dX5_shows_10 : decode cX5_shows 10 = .ok (.bipush (-4), 2) := by decide +kernel
theorem dX5_shows_12 : decode cX5_shows 12 = .ok (.ireturn, 1) := by decide +kernel
theorem dX5_shows_13 : decode cX5_shows 13 = .ok (.aload_n 0, 1) := by decide +kernel
theorem dX5_shows_14 : decode cX5_shows 14 = .ok (.iload_n 1, 1) := by decide +kernel
theorem dX5_shows_15 : decode cX5_shows 15 = .ok (.invokevirtual 73, 3) := by decide +kernel
theorem dX5_shows_18 : decode cX5_shows 18 = .ok (.astore_n 2, 1) := by decide +kernel
theorem dX5_shows_19 : decode cX5_shows 19 = .ok (.aload_n 0, 1) := by decide +kernel
theorem dX5_shows_20 : decode cX5_shows 20 = .ok (.aload_n 2, 1) := by decide +kernel
theorem dX5_shows_21 : decode cX5_shows 21 = .ok (.invokevirtual 96, 3) := by decide +kernel
theorem dX5_shows_24 : decode cX5_shows 24 = .ok (.istore_n 3, 1) := by decide +kernel
theorem dX5_shows_25 : decode cX5_shows 25 = .ok (.aload_n 2, 1) := by decide +kernel
theorem dX5_shows_26 : decode cX5_shows 26 = .ok (.ifnull 7, 3) := by decide +kernel
theorem dX5_shows_29 : decode cX5_shows 29 = .ok (.iload_n 3, 1) := by decide +kernel
theorem dX5_shows_30 : decode cX5_shows 30 = .ok (.ifCond .eq 5, 3) := by decide +kernel
theorem dX5_shows_33 : decode cX5_shows 33 = .ok (.iload_n 3, 1) := by decide +kernel
theorem dX5_shows_34 : decode cX5_shows 34 = .ok (.ireturn, 1) := by decide +kernel
theorem dX5_shows_35 : decode cX5_shows 35 = .ok (.aload_n 2, 1) := by decide +kernel
theorem dX5_shows_36 : decode cX5_shows 36 = .ok (.invokevirtual 118, 3) := by decide +kernel
theorem dX5_shows_39 : decode cX5_shows 39 = .ok (.bipush 20, 2) := by decide +kernel
theorem dX5_shows_41 : decode cX5_shows 41 = .ok (.if_icmp .le 9, 3) := by decide +kernel
theorem dX5_shows_44 : decode cX5_shows 44 = .ok (.aload_n 0, 1) := by decide +kernel
theorem dX5_shows_45 : decode cX5_shows 45 = .ok (.iconst 5, 1) := by decide +kernel
theorem dX5_shows_46 : decode cX5_shows 46 = .ok (.invokevirtual 103, 3) := by decide +kernel
theorem dX5_shows_49 : decode cX5_shows 49 = .ok (.ireturn, 1) := by decide +kernel
theorem dX5_shows_50 : decode cX5_shows 50 = .ok (.aload_n 0, 1) := by decide +kernel
theorem dX5_shows_51 : decode cX5_shows 51 = .ok (.getfield 25, 3) := by decide +kernel
theorem dX5_shows_54 : decode cX5_shows 54 = .ok (.invokevirtual 160, 3) := by decide +kernel
theorem dX5_shows_57 : decode cX5_shows 57 = .ok (.istore 4, 2) := by decide +kernel
theorem dX5_shows_59 : decode cX5_shows 59 = .ok (.iconst 0, 1) := by decide +kernel
theorem dX5_shows_60 : decode cX5_shows 60 = .ok (.istore 5, 2) := by decide +kernel
theorem dX5_shows_62 : decode cX5_shows 62 = .ok (.iload 5, 2) := by decide +kernel
theorem dX5_shows_64 : decode cX5_shows 64 = .ok (.aload_n 2, 1) := by decide +kernel
theorem dX5_shows_65 : decode cX5_shows 65 = .ok (.invokevirtual 118, 3) := by decide +kernel
theorem dX5_shows_68 : decode cX5_shows 68 = .ok (.if_icmp .ge 55, 3) := by decide +kernel
theorem dX5_shows_71 : decode cX5_shows 71 = .ok (.aload_n 0, 1) := by decide +kernel
theorem dX5_shows_72 : decode cX5_shows 72 = .ok (.aload_n 2, 1) := by decide +kernel
theorem dX5_shows_73 : decode cX5_shows 73 = .ok (.iload 5, 2) := by decide +kernel
theorem dX5_shows_75 : decode cX5_shows 75 = .ok (.invokevirtual 85, 3) := by decide +kernel
theorem dX5_shows_78 : decode cX5_shows 78 = .ok (.invokevirtual 146, 3) := by decide +kernel
theorem dX5_shows_81 : decode cX5_shows 81 = .ok (.ifCond .ne 9, 3) := by decide +kernel
theorem dX5_shows_84 : decode cX5_shows 84 = .ok (.aload_n 0, 1) := by decide +kernel
theorem dX5_shows_85 : decode cX5_shows 85 = .ok (.iconst 3, 1) := by decide +kernel
theorem dX5_shows_86 : decode cX5_shows 86 = .ok (.invokevirtual 103, 3) := by decide +kernel
theorem dX5_shows_89 : decode cX5_shows 89 = .ok (.ireturn, 1) := by decide +kernel
theorem dX5_shows_90 : decode cX5_shows 90 = .ok (.aload_n 0, 1) := by decide +kernel
theorem dX5_shows_91 : decode cX5_shows 91 = .ok (.getfield 32, 3) := by decide +kernel
theorem dX5_shows_94 : decode cX5_shows 94 = .ok (.iload 4, 2) := by decide +kernel
theorem dX5_shows_96 : decode cX5_shows 96 = .ok (.aload_n 2, 1) := by decide +kernel
theorem dX5_shows_97 : decode cX5_shows 97 = .ok (.iload 5, 2) := by decide +kernel
theorem dX5_shows_99 : decode cX5_shows 99 = .ok (.invokevirtual 85, 3) := by decide +kernel
theorem dX5_shows_102 : decode cX5_shows 102 = .ok (.aload_n 0, 1) := by decide +kernel
theorem dX5_shows_103 : decode cX5_shows 103 = .ok (.getfield 25, 3) := by decide +kernel
theorem dX5_shows_106 : decode cX5_shows 106 = .ok (.invokevirtual 181, 3) := by decide +kernel
theorem dX5_shows_109 : decode cX5_shows 109 = .ok (.iload 5, 2) := by decide +kernel
theorem dX5_shows_111 : decode cX5_shows 111 = .ok (.iadd, 1) := by decide +kernel
theorem dX5_shows_112 : decode cX5_shows 112 = .ok (.invokevirtual 227, 3) := by decide +kernel
theorem dX5_shows_115 : decode cX5_shows 115 = .ok (.istore 4, 2) := by decide +kernel
theorem dX5_shows_117 : decode cX5_shows 117 = .ok (.iinc 5 1, 3) := by decide +kernel
theorem dX5_shows_120 : decode cX5_shows 120 = .ok (.goto (-58), 3) := by decide +kernel
theorem dX5_shows_123 : decode cX5_shows 123 = .ok (.aload_n 0, 1) := by decide +kernel
theorem dX5_shows_124 : decode cX5_shows 124 = .ok (.getfield 32, 3) := by decide +kernel
theorem dX5_shows_127 : decode cX5_shows 127 = .ok (.iload 4, 2) := by decide +kernel
theorem dX5_shows_129 : decode cX5_shows 129 = .ok (.invokevirtual 184, 3) := by decide +kernel
theorem dX5_shows_132 : decode cX5_shows 132 = .ok (.ireturn, 1) := by decide +kernel
theorem dX5_most_0 : decode cX5_most 0 = .ok (.aload_n 0, 1) := by decide +kernel
theorem dX5_most_1 : decode cX5_most 1 = .ok (.getfield 25, 3) := by decide +kernel
theorem dX5_most_4 : decode cX5_most 4 = .ok (.invokevirtual 187, 3) := by decide +kernel
theorem dX5_most_7 : decode cX5_most 7 = .ok (.ifCond .ne 6, 3) := by decide +kernel
theorem dX5_most_10 : decode cX5_most 10 = .ok (.bipush (-4), 2) := by decide +kernel
theorem dX5_most_12 : decode cX5_most 12 = .ok (.ireturn, 1) := by decide +kernel
theorem dX5_most_13 : decode cX5_most 13 = .ok (.iconst 0, 1) := by decide +kernel
theorem dX5_most_14 : decode cX5_most 14 = .ok (.istore_n 1, 1) := by decide +kernel
theorem dX5_most_15 : decode cX5_most 15 = .ok (.iconst (-1), 1) := by decide +kernel
theorem dX5_most_16 : decode cX5_most 16 = .ok (.istore_n 2, 1) := by decide +kernel
theorem dX5_most_17 : decode cX5_most 17 = .ok (.iconst 0, 1) := by decide +kernel
theorem dX5_most_18 : decode cX5_most 18 = .ok (.istore_n 3, 1) := by decide +kernel
theorem dX5_most_19 : decode cX5_most 19 = .ok (.iload_n 3, 1) := by decide +kernel
theorem dX5_most_20 : decode cX5_most 20 = .ok (.bipush 9, 2) := by decide +kernel
theorem dX5_most_22 : decode cX5_most 22 = .ok (.if_icmp .ge 30, 3) := by decide +kernel
theorem dX5_most_25 : decode cX5_most 25 = .ok (.aload_n 0, 1) := by decide +kernel
theorem dX5_most_26 : decode cX5_most 26 = .ok (.iload_n 3, 1) := by decide +kernel
theorem dX5_most_27 : decode cX5_most 27 = .ok (.invokevirtual 230, 3) := by decide +kernel
theorem dX5_most_30 : decode cX5_most 30 = .ok (.invokestatic 173, 3) := by decide +kernel
theorem dX5_most_33 : decode cX5_most 33 = .ok (.istore 4, 2) := by decide +kernel
theorem dX5_most_35 : decode cX5_most 35 = .ok (.iload 4, 2) := by decide +kernel
theorem dX5_most_37 : decode cX5_most 37 = .ok (.iload_n 2, 1) := by decide +kernel
theorem dX5_most_38 : decode cX5_most 38 = .ok (.if_icmp .le 8, 3) := by decide +kernel
theorem dX5_most_41 : decode cX5_most 41 = .ok (.iload_n 3, 1) := by decide +kernel
theorem dX5_most_42 : decode cX5_most 42 = .ok (.istore_n 1, 1) := by decide +kernel
theorem dX5_most_43 : decode cX5_most 43 = .ok (.iload 4, 2) := by decide +kernel
theorem dX5_most_45 : decode cX5_most 45 = .ok (.istore_n 2, 1) := by decide +kernel
theorem dX5_most_46 : decode cX5_most 46 = .ok (.iinc 3 1, 3) := by decide +kernel
theorem dX5_most_49 : decode cX5_most 49 = .ok (.goto (-30), 3) := by decide +kernel
theorem dX5_most_52 : decode cX5_most 52 = .ok (.aload_n 0, 1) := by decide +kernel
theorem dX5_most_53 : decode cX5_most 53 = .ok (.iload_n 2, 1) := by decide +kernel
theorem dX5_most_54 : decode cX5_most 54 = .ok (.putfield 60, 3) := by decide +kernel
theorem dX5_most_57 : decode cX5_most 57 = .ok (.iload_n 1, 1) := by decide +kernel
theorem dX5_most_58 : decode cX5_most 58 = .ok (.ireturn, 1) := by decide +kernel
theorem dX5_fewest_0 : decode cX5_fewest 0 = .ok (.aload_n 0, 1) := by decide +kernel
theorem dX5_fewest_1 : decode cX5_fewest 1 = .ok (.iload_n 1, 1) := by decide +kernel
theorem dX5_fewest_2 : decode cX5_fewest 2 = .ok (.invokevirtual 233, 3) := by decide +kernel
theorem dX5_fewest_5 : decode cX5_fewest 5 = .ok (.istore_n 3, 1) := by decide +kernel
theorem dX5_fewest_6 : decode cX5_fewest 6 = .ok (.iload_n 3, 1) := by decide +kernel
theorem dX5_fewest_7 : decode cX5_fewest 7 = .ok (.ifCond .eq 5, 3) := by decide +kernel
theorem dX5_fewest_10 : decode cX5_fewest 10 = .ok (.iload_n 3, 1) := by decide +kernel
theorem dX5_fewest_11 : decode cX5_fewest 11 = .ok (.ireturn, 1) := by decide +kernel
theorem dX5_fewest_12 : decode cX5_fewest 12 = .ok (.aload_n 0, 1) := by decide +kernel
theorem dX5_fewest_13 : decode cX5_fewest 13 = .ok (.iload_n 2, 1) := by decide +kernel
theorem dX5_fewest_14 : decode cX5_fewest 14 = .ok (.invokevirtual 73, 3) := by decide +kernel
theorem dX5_fewest_17 : decode cX5_fewest 17 = .ok (.astore 4, 2) := by decide +kernel
theorem dX5_fewest_19 : decode cX5_fewest 19 = .ok (.aload 4, 2) := by decide +kernel
theorem dX5_fewest_21 : decode cX5_fewest 21 = .ok (.ifnonnull 5, 3) := by decide +kernel
theorem dX5_fewest_24 : decode cX5_fewest 24 = .ok (.iconst (-1), 1) := by decide +kernel
theorem dX5_fewest_25 : decode cX5_fewest 25 = .ok (.ireturn, 1) := by decide +kernel
theorem dX5_fewest_26 : decode cX5_fewest 26 = .ok (.iconst 0, 1) := by decide +kernel
theorem dX5_fewest_27 : decode cX5_fewest 27 = .ok (.istore 5, 2) := by decide +kernel
theorem dX5_fewest_29 : decode cX5_fewest 29 = .ok (.iload 5, 2) := by decide +kernel
theorem dX5_fewest_31 : decode cX5_fewest 31 = .ok (.iconst 4, 1) := by decide +kernel
theorem dX5_fewest_32 : decode cX5_fewest 32 = .ok (.if_icmp .gt 92, 3) := by decide +kernel
theorem dX5_fewest_35 : decode cX5_fewest 35 = .ok (.aload_n 0, 1) := by decide +kernel
theorem dX5_fewest_36 : decode cX5_fewest 36 = .ok (.getfield 32, 3) := by decide +kernel
theorem dX5_fewest_39 : decode cX5_fewest 39 = .ok (.aload_n 0, 1) := by decide +kernel
theorem dX5_fewest_40 : decode cX5_fewest 40 = .ok (.getfield 25, 3) := by decide +kernel
theorem dX5_fewest_43 : decode cX5_fewest 43 = .ok (.invokevirtual 160, 3) := by decide +kernel
theorem dX5_fewest_46 : decode cX5_fewest 46 = .ok (.aload_n 0, 1) := by decide +kernel
theorem dX5_fewest_47 : decode cX5_fewest 47 = .ok (.getfield 25, 3) := by decide +kernel
theorem dX5_fewest_50 : decode cX5_fewest 50 = .ok (.invokevirtual 181, 3) := by decide +kernel
theorem dX5_fewest_53 : decode cX5_fewest 53 = .ok (.aload_n 0, 1) := by decide +kernel
theorem dX5_fewest_54 : decode cX5_fewest 54 = .ok (.getfield 50, 3) := by decide +kernel
theorem dX5_fewest_57 : decode cX5_fewest 57 = .ok (.iconst 0, 1) := by decide +kernel
theorem dX5_fewest_58 : decode cX5_fewest 58 = .ok (.iload 5, 2) := by decide +kernel
theorem dX5_fewest_60 : decode cX5_fewest 60 = .ok (.iload_n 1, 1) := by decide +kernel
theorem dX5_fewest_61 : decode cX5_fewest 61 = .ok (.invokestatic 236, 3) := by decide +kernel
theorem dX5_fewest_64 : decode cX5_fewest 64 = .ok (.ifCond .eq 54, 3) := by decide +kernel
theorem dX5_fewest_67 : decode cX5_fewest 67 = .ok (.aload 4, 2) := by decide +kernel
theorem dX5_fewest_69 : decode cX5_fewest 69 = .ok (.iload 5, 2) := by decide +kernel
theorem dX5_fewest_71 : decode cX5_fewest 71 = .ok (.iconst 0, 1) := by decide +kernel
theorem dX5_fewest_72 : decode cX5_fewest 72 = .ok (.invokevirtual 240, 3) := by decide +kernel
theorem dX5_fewest_75 : decode cX5_fewest 75 = .ok (.iconst 0, 1) := by decide +kernel
theorem dX5_fewest_76 : decode cX5_fewest 76 = .ok (.istore 6, 2) := by decide +kernel
theorem dX5_fewest_78 : decode cX5_fewest 78 = .ok (.iload 6, 2) := by decide +kernel
theorem dX5_fewest_80 : decode cX5_fewest 80 = .ok (.iload 5, 2) := by decide +kernel
theorem dX5_fewest_82 : decode cX5_fewest 82 = .ok (.if_icmp .ge 33, 3) := by decide +kernel
theorem dX5_fewest_85 : decode cX5_fewest 85 = .ok (.iload 6, 2) := by decide +kernel
theorem dX5_fewest_87 : decode cX5_fewest 87 = .ok (.aload_n 0, 1) := by decide +kernel
theorem dX5_fewest_88 : decode cX5_fewest 88 = .ok (.getfield 50, 3) := by decide +kernel
theorem dX5_fewest_91 : decode cX5_fewest 91 = .ok (.arraylength, 1) := by decide +kernel
theorem dX5_fewest_92 : decode cX5_fewest 92 = .ok (.if_icmp .ge 23, 3) := by decide +kernel
theorem dX5_fewest_95 : decode cX5_fewest 95 = .ok (.aload 4, 2) := by decide +kernel
theorem dX5_fewest_97 : decode cX5_fewest 97 = .ok (.iload 6, 2) := by decide +kernel
theorem dX5_fewest_99 : decode cX5_fewest 99 = .ok (.aload_n 0, 1) := by decide +kernel
theorem dX5_fewest_100 : decode cX5_fewest 100 = .ok (.getfield 50, 3) := by decide +kernel
theorem dX5_fewest_103 : decode cX5_fewest 103 = .ok (.iload 6, 2) := by decide +kernel
theorem dX5_fewest_105 : decode cX5_fewest 105 = .ok (.iaload, 1) := by decide +kernel
theorem dX5_fewest_106 : decode cX5_fewest 106 = .ok (.invokevirtual 89, 3) := by decide +kernel
theorem dX5_fewest_109 : decode cX5_fewest 109 = .ok (.iinc 6 1, 3) := by decide +kernel
theorem dX5_fewest_112 : decode cX5_fewest 112 = .ok (.goto (-34), 3) := by decide +kernel
theorem dX5_fewest_115 : decode cX5_fewest 115 = .ok (.iload 5, 2) := by decide +kernel
theorem dX5_fewest_117 : decode cX5_fewest 117 = .ok (.ireturn, 1) := by decide +kernel
theorem dX5_fewest_118 : decode cX5_fewest 118 = .ok (.iinc 5 1, 3) := by decide +kernel
theorem dX5_fewest_121 : decode cX5_fewest 121 = .ok (.goto (-92), 3) := by decide +kernel
theorem dX5_fewest_124 : decode cX5_fewest 124 = .ok (.bipush (-9), 2) := by decide +kernel
theorem dX5_fewest_126 : decode cX5_fewest 126 = .ok (.ireturn, 1) := by decide +kernel
theorem dX5_ways_0 : decode cX5_ways 0 = .ok (.aload_n 0, 1) := by decide +kernel
theorem dX5_ways_1 : decode cX5_ways 1 = .ok (.iload_n 1, 1) := by decide +kernel
theorem dX5_ways_2 : decode cX5_ways 2 = .ok (.invokevirtual 233, 3) := by decide +kernel
theorem dX5_ways_5 : decode cX5_ways 5 = .ok (.istore_n 2, 1) := by decide +kernel
theorem dX5_ways_6 : decode cX5_ways 6 = .ok (.iload_n 2, 1) := by decide +kernel
theorem dX5_ways_7 : decode cX5_ways 7 = .ok (.ifCond .eq 5, 3) := by decide +kernel
theorem dX5_ways_10 : decode cX5_ways 10 = .ok (.iload_n 2, 1) := by decide +kernel
theorem dX5_ways_11 : decode cX5_ways 11 = .ok (.ireturn, 1) := by decide +kernel
theorem dX5_ways_12 : decode cX5_ways 12 = .ok (.aload_n 0, 1) := by decide +kernel
theorem dX5_ways_13 : decode cX5_ways 13 = .ok (.invokevirtual 243, 3) := by decide +kernel
theorem dX5_ways_16 : decode cX5_ways 16 = .ok (.iconst 0, 1) := by decide +kernel
theorem dX5_ways_17 : decode cX5_ways 17 = .ok (.istore_n 3, 1) := by decide +kernel
theorem dX5_ways_18 : decode cX5_ways 18 = .ok (.bipush (-9), 2) := by decide +kernel
theorem dX5_ways_20 : decode cX5_ways 20 = .ok (.istore 4, 2) := by decide +kernel
theorem dX5_ways_22 : decode cX5_ways 22 = .ok (.iconst 0, 1) := by decide +kernel
theorem dX5_ways_23 : decode cX5_ways 23 = .ok (.istore 5, 2) := by decide +kernel
theorem dX5_ways_25 : decode cX5_ways 25 = .ok (.iload 5, 2) := by decide +kernel
theorem dX5_ways_27 : decode cX5_ways 27 = .ok (.sipush 512, 3) := by decide +kernel
theorem dX5_ways_30 : decode cX5_ways 30 = .ok (.if_icmp .ge 43, 3) := by decide +kernel
theorem dX5_ways_33 : decode cX5_ways 33 = .ok (.aload_n 0, 1) := by decide +kernel
theorem dX5_ways_34 : decode cX5_ways 34 = .ok (.getfield 32, 3) := by decide +kernel
theorem dX5_ways_37 : decode cX5_ways 37 = .ok (.aload_n 0, 1) := by decide +kernel
theorem dX5_ways_38 : decode cX5_ways 38 = .ok (.getfield 46, 3) := by decide +kernel
theorem dX5_ways_41 : decode cX5_ways 41 = .ok (.iload 5, 2) := by decide +kernel
theorem dX5_ways_43 : decode cX5_ways 43 = .ok (.iaload, 1) := by decide +kernel
theorem dX5_ways_44 : decode cX5_ways 44 = .ok (.invokevirtual 184, 3) := by decide +kernel
theorem dX5_ways_47 : decode cX5_ways 47 = .ok (.iload_n 1, 1) := by decide +kernel
theorem dX5_ways_48 : decode cX5_ways 48 = .ok (.if_icmp .ne 19, 3) := by decide +kernel
theorem dX5_ways_51 : decode cX5_ways 51 = .ok (.iload_n 3, 1) := by decide +kernel
theorem dX5_ways_52 : decode cX5_ways 52 = .ok (.ifCond .ne 8, 3) := by decide +kernel
theorem dX5_ways_55 : decode cX5_ways 55 = .ok (.iload 5, 2) := by decide +kernel
theorem dX5_ways_57 : decode cX5_ways 57 = .ok (.goto 5, 3) := by decide +kernel
theorem dX5_ways_60 : decode cX5_ways 60 = .ok (.iload 4, 2) := by decide +kernel
theorem dX5_ways_62 : decode cX5_ways 62 = .ok (.istore 4, 2) := by decide +kernel
theorem dX5_ways_64 : decode cX5_ways 64 = .ok (.iinc 3 1, 3) := by decide +kernel
theorem dX5_ways_67 : decode cX5_ways 67 = .ok (.iinc 5 1, 3) := by decide +kernel
theorem dX5_ways_70 : decode cX5_ways 70 = .ok (.goto (-45), 3) := by decide +kernel
theorem dX5_ways_73 : decode cX5_ways 73 = .ok (.aload_n 0, 1) := by decide +kernel
theorem dX5_ways_74 : decode cX5_ways 74 = .ok (.iload_n 3, 1) := by decide +kernel
theorem dX5_ways_75 : decode cX5_ways 75 = .ok (.i2l, 1) := by decide +kernel
theorem dX5_ways_76 : decode cX5_ways 76 = .ok (.lconst 1, 1) := by decide +kernel
theorem dX5_ways_77 : decode cX5_ways 77 = .ok (.invokevirtual 246, 3) := by decide +kernel
theorem dX5_ways_80 : decode cX5_ways 80 = .ok (.aload_n 0, 1) := by decide +kernel
theorem dX5_ways_81 : decode cX5_ways 81 = .ok (.iload 4, 2) := by decide +kernel
theorem dX5_ways_83 : decode cX5_ways 83 = .ok (.invokevirtual 93, 3) := by decide +kernel
theorem dX5_ways_86 : decode cX5_ways 86 = .ok (.ireturn, 1) := by decide +kernel
theorem dX5_sure_0 : decode cX5_sure 0 = .ok (.aload_n 0, 1) := by decide +kernel
theorem dX5_sure_1 : decode cX5_sure 1 = .ok (.iload_n 1, 1) := by decide +kernel
theorem dX5_sure_2 : decode cX5_sure 2 = .ok (.invokevirtual 233, 3) := by decide +kernel
theorem dX5_sure_5 : decode cX5_sure 5 = .ok (.istore_n 2, 1) := by decide +kernel
theorem dX5_sure_6 : decode cX5_sure 6 = .ok (.iload_n 2, 1) := by decide +kernel
theorem dX5_sure_7 : decode cX5_sure 7 = .ok (.ifCond .eq 5, 3) := by decide +kernel
theorem dX5_sure_10 : decode cX5_sure 10 = .ok (.iload_n 2, 1) := by decide +kernel
theorem dX5_sure_11 : decode cX5_sure 11 = .ok (.ireturn, 1) := by decide +kernel
theorem dX5_sure_12 : decode cX5_sure 12 = .ok (.aload_n 0, 1) := by decide +kernel
theorem dX5_sure_13 : decode cX5_sure 13 = .ok (.invokevirtual 243, 3) := by decide +kernel
theorem dX5_sure_16 : decode cX5_sure 16 = .ok (.iconst 0, 1) := by decide +kernel
theorem dX5_sure_17 : decode cX5_sure 17 = .ok (.istore_n 3, 1) := by decide +kernel
theorem dX5_sure_18 : decode cX5_sure 18 = .ok (.sipush 511, 3) := by decide +kernel
theorem dX5_sure_21 : decode cX5_sure 21 = .ok (.istore 4, 2) := by decide +kernel
theorem dX5_sure_23 : decode cX5_sure 23 = .ok (.iconst 0, 1) := by decide +kernel
theorem dX5_sure_24 : decode cX5_sure 24 = .ok (.istore 5, 2) := by decide +kernel
theorem dX5_sure_26 : decode cX5_sure 26 = .ok (.iconst 0, 1) := by decide +kernel
theorem dX5_sure_27 : decode cX5_sure 27 = .ok (.istore 6, 2) := by decide +kernel
theorem dX5_sure_29 : decode cX5_sure 29 = .ok (.iload 6, 2) := by decide +kernel
theorem dX5_sure_31 : decode cX5_sure 31 = .ok (.sipush 512, 3) := by decide +kernel
theorem dX5_sure_34 : decode cX5_sure 34 = .ok (.if_icmp .ge 43, 3) := by decide +kernel
theorem dX5_sure_37 : decode cX5_sure 37 = .ok (.aload_n 0, 1) := by decide +kernel
theorem dX5_sure_38 : decode cX5_sure 38 = .ok (.getfield 32, 3) := by decide +kernel
theorem dX5_sure_41 : decode cX5_sure 41 = .ok (.aload_n 0, 1) := by decide +kernel
theorem dX5_sure_42 : decode cX5_sure 42 = .ok (.getfield 46, 3) := by decide +kernel
theorem dX5_sure_45 : decode cX5_sure 45 = .ok (.iload 6, 2) := by decide +kernel
theorem dX5_sure_47 : decode cX5_sure 47 = .ok (.iaload, 1) := by decide +kernel
theorem dX5_sure_48 : decode cX5_sure 48 = .ok (.invokevirtual 184, 3) := by decide +kernel
theorem dX5_sure_51 : decode cX5_sure 51 = .ok (.iload_n 1, 1) := by decide +kernel
theorem dX5_sure_52 : decode cX5_sure 52 = .ok (.if_icmp .ne 19, 3) := by decide +kernel
theorem dX5_sure_55 : decode cX5_sure 55 = .ok (.iconst 1, 1) := by decide +kernel
theorem dX5_sure_56 : decode cX5_sure 56 = .ok (.istore_n 3, 1) := by decide +kernel
theorem dX5_sure_57 : decode cX5_sure 57 = .ok (.iload 4, 2) := by decide +kernel
theorem dX5_sure_59 : decode cX5_sure 59 = .ok (.iload 6, 2) := by decide +kernel
theorem dX5_sure_61 : decode cX5_sure 61 = .ok (.iand, 1) := by decide +kernel
theorem dX5_sure_62 : decode cX5_sure 62 = .ok (.istore 4, 2) := by decide +kernel
theorem dX5_sure_64 : decode cX5_sure 64 = .ok (.iload 5, 2) := by decide +kernel
theorem dX5_sure_66 : decode cX5_sure 66 = .ok (.iload 6, 2) := by decide +kernel
theorem dX5_sure_68 : decode cX5_sure 68 = .ok (.ior, 1) := by decide +kernel
theorem dX5_sure_69 : decode cX5_sure 69 = .ok (.istore 5, 2) := by decide +kernel
theorem dX5_sure_71 : decode cX5_sure 71 = .ok (.iinc 6 1, 3) := by decide +kernel
theorem dX5_sure_74 : decode cX5_sure 74 = .ok (.goto (-45), 3) := by decide +kernel
theorem dX5_sure_77 : decode cX5_sure 77 = .ok (.iload_n 3, 1) := by decide +kernel
theorem dX5_sure_78 : decode cX5_sure 78 = .ok (.ifCond .ne 9, 3) := by decide +kernel
theorem dX5_sure_81 : decode cX5_sure 81 = .ok (.aload_n 0, 1) := by decide +kernel
theorem dX5_sure_82 : decode cX5_sure 82 = .ok (.iconst 4, 1) := by decide +kernel
theorem dX5_sure_83 : decode cX5_sure 83 = .ok (.invokevirtual 103, 3) := by decide +kernel
theorem dX5_sure_86 : decode cX5_sure 86 = .ok (.ireturn, 1) := by decide +kernel
theorem dX5_sure_87 : decode cX5_sure 87 = .ok (.aload_n 0, 1) := by decide +kernel
theorem dX5_sure_88 : decode cX5_sure 88 = .ok (.sipush 511, 3) := by decide +kernel
theorem dX5_sure_91 : decode cX5_sure 91 = .ok (.iload 5, 2) := by decide +kernel
theorem dX5_sure_93 : decode cX5_sure 93 = .ok (.iconst (-1), 1) := by decide +kernel
theorem dX5_sure_94 : decode cX5_sure 94 = .ok (.ixor, 1) := by decide +kernel
theorem dX5_sure_95 : decode cX5_sure 95 = .ok (.iand, 1) := by decide +kernel
theorem dX5_sure_96 : decode cX5_sure 96 = .ok (.putfield 60, 3) := by decide +kernel
theorem dX5_sure_99 : decode cX5_sure 99 = .ok (.iload 4, 2) := by decide +kernel
theorem dX5_sure_101 : decode cX5_sure 101 = .ok (.ireturn, 1) := by decide +kernel
theorem dX5_which_0 : decode cX5_which 0 = .ok (.aload_n 0, 1) := by decide +kernel
theorem dX5_which_1 : decode cX5_which 1 = .ok (.iload_n 1, 1) := by decide +kernel
theorem dX5_which_2 : decode cX5_which 2 = .ok (.invokevirtual 233, 3) := by decide +kernel
theorem dX5_which_5 : decode cX5_which 5 = .ok (.istore_n 2, 1) := by decide +kernel
theorem dX5_which_6 : decode cX5_which 6 = .ok (.iload_n 2, 1) := by decide +kernel
theorem dX5_which_7 : decode cX5_which 7 = .ok (.ifCond .eq 5, 3) := by decide +kernel
theorem dX5_which_10 : decode cX5_which 10 = .ok (.iload_n 2, 1) := by decide +kernel
theorem dX5_which_11 : decode cX5_which 11 = .ok (.ireturn, 1) := by decide +kernel
theorem dX5_which_12 : decode cX5_which 12 = .ok (.iconst 0, 1) := by decide +kernel
theorem dX5_which_13 : decode cX5_which 13 = .ok (.istore_n 3, 1) := by decide +kernel
theorem dX5_which_14 : decode cX5_which 14 = .ok (.iconst 0, 1) := by decide +kernel
theorem dX5_which_15 : decode cX5_which 15 = .ok (.istore 4, 2) := by decide +kernel
theorem dX5_which_17 : decode cX5_which 17 = .ok (.iload 4, 2) := by decide +kernel
theorem dX5_which_19 : decode cX5_which 19 = .ok (.bipush 9, 2) := by decide +kernel
theorem dX5_which_21 : decode cX5_which 21 = .ok (.if_icmp .ge 26, 3) := by decide +kernel
theorem dX5_which_24 : decode cX5_which 24 = .ok (.aload_n 0, 1) := by decide +kernel
theorem dX5_which_25 : decode cX5_which 25 = .ok (.iload 4, 2) := by decide +kernel
theorem dX5_which_27 : decode cX5_which 27 = .ok (.invokevirtual 230, 3) := by decide +kernel
theorem dX5_which_30 : decode cX5_which 30 = .ok (.iload_n 1, 1) := by decide +kernel
theorem dX5_which_31 : decode cX5_which 31 = .ok (.if_icmp .ne 10, 3) := by decide +kernel
theorem dX5_which_34 : decode cX5_which 34 = .ok (.iload_n 3, 1) := by decide +kernel
theorem dX5_which_35 : decode cX5_which 35 = .ok (.iconst 1, 1) := by decide +kernel
theorem dX5_which_36 : decode cX5_which 36 = .ok (.iload 4, 2) := by decide +kernel
theorem dX5_which_38 : decode cX5_which 38 = .ok (.ishl, 1) := by decide +kernel
theorem dX5_which_39 : decode cX5_which 39 = .ok (.ior, 1) := by decide +kernel
theorem dX5_which_40 : decode cX5_which 40 = .ok (.istore_n 3, 1) := by decide +kernel
theorem dX5_which_41 : decode cX5_which 41 = .ok (.iinc 4 1, 3) := by decide +kernel
theorem dX5_which_44 : decode cX5_which 44 = .ok (.goto (-27), 3) := by decide +kernel
theorem dX5_which_47 : decode cX5_which 47 = .ok (.iload_n 3, 1) := by decide +kernel
theorem dX5_which_48 : decode cX5_which 48 = .ok (.ireturn, 1) := by decide +kernel
theorem dX5_kinds_0 : decode cX5_kinds 0 = .ok (.aload_n 0, 1) := by decide +kernel
theorem dX5_kinds_1 : decode cX5_kinds 1 = .ok (.iload_n 2, 1) := by decide +kernel
theorem dX5_kinds_2 : decode cX5_kinds 2 = .ok (.invokevirtual 73, 3) := by decide +kernel
theorem dX5_kinds_5 : decode cX5_kinds 5 = .ok (.astore_n 3, 1) := by decide +kernel
theorem dX5_kinds_6 : decode cX5_kinds 6 = .ok (.aload_n 0, 1) := by decide +kernel
theorem dX5_kinds_7 : decode cX5_kinds 7 = .ok (.iload_n 1, 1) := by decide +kernel
theorem dX5_kinds_8 : decode cX5_kinds 8 = .ok (.aload_n 3, 1) := by decide +kernel
theorem dX5_kinds_9 : decode cX5_kinds 9 = .ok (.invokevirtual 250, 3) := by decide +kernel
theorem dX5_kinds_12 : decode cX5_kinds 12 = .ok (.istore 4, 2) := by decide +kernel
theorem dX5_kinds_14 : decode cX5_kinds 14 = .ok (.aload_n 3, 1) := by decide +kernel
theorem dX5_kinds_15 : decode cX5_kinds 15 = .ok (.ifnull 8, 3) := by decide +kernel
theorem dX5_kinds_18 : decode cX5_kinds 18 = .ok (.iload 4, 2) := by decide +kernel
theorem dX5_kinds_20 : decode cX5_kinds 20 = .ok (.ifCond .eq 8, 3) := by decide +kernel
theorem dX5_kinds_23 : decode cX5_kinds 23 = .ok (.iload 4, 2) := by decide +kernel
theorem dX5_kinds_25 : decode cX5_kinds 25 = .ok (.goto 9, 3) := by decide +kernel
theorem dX5_kinds_28 : decode cX5_kinds 28 = .ok (.aload_n 0, 1) := by decide +kernel
theorem dX5_kinds_29 : decode cX5_kinds 29 = .ok (.iload_n 1, 1) := by decide +kernel
theorem dX5_kinds_30 : decode cX5_kinds 30 = .ok (.aload_n 3, 1) := by decide +kernel
theorem dX5_kinds_31 : decode cX5_kinds 31 = .ok (.invokevirtual 254, 3) := by decide +kernel
theorem dX5_kinds_34 : decode cX5_kinds 34 = .ok (.ireturn, 1) := by decide +kernel
theorem dX5_next_0 : decode cX5_next 0 = .ok (.aload_n 0, 1) := by decide +kernel
theorem dX5_next_1 : decode cX5_next 1 = .ok (.iload_n 2, 1) := by decide +kernel
theorem dX5_next_2 : decode cX5_next 2 = .ok (.invokevirtual 73, 3) := by decide +kernel
theorem dX5_next_5 : decode cX5_next 5 = .ok (.astore_n 3, 1) := by decide +kernel
theorem dX5_next_6 : decode cX5_next 6 = .ok (.aload_n 0, 1) := by decide +kernel
theorem dX5_next_7 : decode cX5_next 7 = .ok (.iload_n 1, 1) := by decide +kernel
theorem dX5_next_8 : decode cX5_next 8 = .ok (.aload_n 3, 1) := by decide +kernel
theorem dX5_next_9 : decode cX5_next 9 = .ok (.invokevirtual 250, 3) := by decide +kernel
theorem dX5_next_12 : decode cX5_next 12 = .ok (.istore 4, 2) := by decide +kernel
theorem dX5_next_14 : decode cX5_next 14 = .ok (.aload_n 3, 1) := by decide +kernel
theorem dX5_next_15 : decode cX5_next 15 = .ok (.ifnull 8, 3) := by decide +kernel
theorem dX5_next_18 : decode cX5_next 18 = .ok (.iload 4, 2) := by decide +kernel
theorem dX5_next_20 : decode cX5_next 20 = .ok (.ifCond .eq 6, 3) := by decide +kernel
theorem dX5_next_23 : decode cX5_next 23 = .ok (.iload 4, 2) := by decide +kernel
theorem dX5_next_25 : decode cX5_next 25 = .ok (.ireturn, 1) := by decide +kernel
theorem dX5_next_26 : decode cX5_next 26 = .ok (.aload_n 0, 1) := by decide +kernel
theorem dX5_next_27 : decode cX5_next 27 = .ok (.iload_n 1, 1) := by decide +kernel
theorem dX5_next_28 : decode cX5_next 28 = .ok (.aload_n 3, 1) := by decide +kernel
theorem dX5_next_29 : decode cX5_next 29 = .ok (.invokevirtual 254, 3) := by decide +kernel
theorem dX5_next_32 : decode cX5_next 32 = .ok (.istore 5, 2) := by decide +kernel
theorem dX5_next_34 : decode cX5_next 34 = .ok (.iload 5, 2) := by decide +kernel
theorem dX5_next_36 : decode cX5_next 36 = .ok (.ifCond .ne 6, 3) := by decide +kernel
theorem dX5_next_39 : decode cX5_next 39 = .ok (.bipush (-9), 2) := by decide +kernel
theorem dX5_next_41 : decode cX5_next 41 = .ok (.ireturn, 1) := by decide +kernel
theorem dX5_next_42 : decode cX5_next 42 = .ok (.iconst 0, 1) := by decide +kernel
theorem dX5_next_43 : decode cX5_next 43 = .ok (.istore 6, 2) := by decide +kernel
theorem dX5_next_45 : decode cX5_next 45 = .ok (.bipush 7, 2) := by decide +kernel
theorem dX5_next_47 : decode cX5_next 47 = .ok (.istore 7, 2) := by decide +kernel
theorem dX5_next_49 : decode cX5_next 49 = .ok (.iconst 0, 1) := by decide +kernel
theorem dX5_next_50 : decode cX5_next 50 = .ok (.istore 8, 2) := by decide +kernel
theorem dX5_next_52 : decode cX5_next 52 = .ok (.iload 8, 2) := by decide +kernel
theorem dX5_next_54 : decode cX5_next 54 = .ok (.bipush 9, 2) := by decide +kernel
theorem dX5_next_56 : decode cX5_next 56 = .ok (.if_icmp .ge 35, 3) := by decide +kernel
theorem dX5_next_59 : decode cX5_next 59 = .ok (.aload_n 0, 1) := by decide +kernel
theorem dX5_next_60 : decode cX5_next 60 = .ok (.iload_n 1, 1) := by decide +kernel
theorem dX5_next_61 : decode cX5_next 61 = .ok (.iload 5, 2) := by decide +kernel
theorem dX5_next_63 : decode cX5_next 63 = .ok (.iload 8, 2) := by decide +kernel
theorem dX5_next_65 : decode cX5_next 65 = .ok (.invokevirtual 257, 3) := by decide +kernel
theorem dX5_next_68 : decode cX5_next 68 = .ok (.istore 9, 2) := by decide +kernel
theorem dX5_next_70 : decode cX5_next 70 = .ok (.iload 9, 2) := by decide +kernel
theorem dX5_next_72 : decode cX5_next 72 = .ok (.iload 7, 2) := by decide +kernel
theorem dX5_next_74 : decode cX5_next 74 = .ok (.if_icmp .ge 11, 3) := by decide +kernel
theorem dX5_next_77 : decode cX5_next 77 = .ok (.iload 8, 2) := by decide +kernel
theorem dX5_next_79 : decode cX5_next 79 = .ok (.istore 6, 2) := by decide +kernel
theorem dX5_next_81 : decode cX5_next 81 = .ok (.iload 9, 2) := by decide +kernel
theorem dX5_next_83 : decode cX5_next 83 = .ok (.istore 7, 2) := by decide +kernel
theorem dX5_next_85 : decode cX5_next 85 = .ok (.iinc 8 1, 3) := by decide +kernel
theorem dX5_next_88 : decode cX5_next 88 = .ok (.goto (-36), 3) := by decide +kernel
theorem dX5_next_91 : decode cX5_next 91 = .ok (.aload_n 0, 1) := by decide +kernel
theorem dX5_next_92 : decode cX5_next 92 = .ok (.iload 7, 2) := by decide +kernel
theorem dX5_next_94 : decode cX5_next 94 = .ok (.putfield 60, 3) := by decide +kernel
theorem dX5_next_97 : decode cX5_next 97 = .ok (.iload 6, 2) := by decide +kernel
theorem dX5_next_99 : decode cX5_next 99 = .ok (.ireturn, 1) := by decide +kernel
theorem dX5_sums_0 : decode cX5_sums 0 = .ok (.aload_n 0, 1) := by decide +kernel
theorem dX5_sums_1 : decode cX5_sums 1 = .ok (.getfield 25, 3) := by decide +kernel
theorem dX5_sums_4 : decode cX5_sums 4 = .ok (.invokevirtual 187, 3) := by decide +kernel
theorem dX5_sums_7 : decode cX5_sums 7 = .ok (.ifCond .ne 6, 3) := by decide +kernel
theorem dX5_sums_10 : decode cX5_sums 10 = .ok (.bipush (-4), 2) := by decide +kernel
theorem dX5_sums_12 : decode cX5_sums 12 = .ok (.ireturn, 1) := by decide +kernel
theorem dX5_sums_13 : decode cX5_sums 13 = .ok (.iload_n 1, 1) := by decide +kernel
theorem dX5_sums_14 : decode cX5_sums 14 = .ok (.ifCond .lt 9, 3) := by decide +kernel
theorem dX5_sums_17 : decode cX5_sums 17 = .ok (.iload_n 1, 1) := by decide +kernel
theorem dX5_sums_18 : decode cX5_sums 18 = .ok (.bipush 18, 2) := by decide +kernel
theorem dX5_sums_20 : decode cX5_sums 20 = .ok (.if_icmp .le 5, 3) := by decide +kernel
theorem dX5_sums_23 : decode cX5_sums 23 = .ok (.iconst (-1), 1) := by decide +kernel
theorem dX5_sums_24 : decode cX5_sums 24 = .ok (.ireturn, 1) := by decide +kernel
theorem dX5_sums_25 : decode cX5_sums 25 = .ok (.aload_n 0, 1) := by decide +kernel
theorem dX5_sums_26 : decode cX5_sums 26 = .ok (.getfield 25, 3) := by decide +kernel
theorem dX5_sums_29 : decode cX5_sums 29 = .ok (.invokevirtual 160, 3) := by decide +kernel
theorem dX5_sums_32 : decode cX5_sums 32 = .ok (.istore_n 2, 1) := by decide +kernel
theorem dX5_sums_33 : decode cX5_sums 33 = .ok (.iconst 0, 1) := by decide +kernel
theorem dX5_sums_34 : decode cX5_sums 34 = .ok (.istore_n 3, 1) := by decide +kernel
theorem dX5_sums_35 : decode cX5_sums 35 = .ok (.bipush (-9), 2) := by decide +kernel
theorem dX5_sums_37 : decode cX5_sums 37 = .ok (.istore 4, 2) := by decide +kernel
theorem dX5_sums_39 : decode cX5_sums 39 = .ok (.iconst 0, 1) := by decide +kernel
theorem dX5_sums_40 : decode cX5_sums 40 = .ok (.istore 5, 2) := by decide +kernel
theorem dX5_sums_42 : decode cX5_sums 42 = .ok (.iload 5, 2) := by decide +kernel
theorem dX5_sums_44 : decode cX5_sums 44 = .ok (.sipush 512, 3) := by decide +kernel
theorem dX5_sums_47 : decode cX5_sums 47 = .ok (.if_icmp .ge 35, 3) := by decide +kernel
theorem dX5_sums_50 : decode cX5_sums 50 = .ok (.iload_n 2, 1) := by decide +kernel
theorem dX5_sums_51 : decode cX5_sums 51 = .ok (.iload 5, 2) := by decide +kernel
theorem dX5_sums_53 : decode cX5_sums 53 = .ok (.invokestatic 260, 3) := by decide +kernel
theorem dX5_sums_56 : decode cX5_sums 56 = .ok (.iload_n 1, 1) := by decide +kernel
theorem dX5_sums_57 : decode cX5_sums 57 = .ok (.if_icmp .ne 19, 3) := by decide +kernel
theorem dX5_sums_60 : decode cX5_sums 60 = .ok (.iload_n 3, 1) := by decide +kernel
theorem dX5_sums_61 : decode cX5_sums 61 = .ok (.ifCond .ne 8, 3) := by decide +kernel
theorem dX5_sums_64 : decode cX5_sums 64 = .ok (.iload 5, 2) := by decide +kernel
theorem dX5_sums_66 : decode cX5_sums 66 = .ok (.goto 5, 3) := by decide +kernel
theorem dX5_sums_69 : decode cX5_sums 69 = .ok (.iload 4, 2) := by decide +kernel
theorem dX5_sums_71 : decode cX5_sums 71 = .ok (.istore 4, 2) := by decide +kernel
theorem dX5_sums_73 : decode cX5_sums 73 = .ok (.iinc 3 1, 3) := by decide +kernel
theorem dX5_sums_76 : decode cX5_sums 76 = .ok (.iinc 5 1, 3) := by decide +kernel
theorem dX5_sums_79 : decode cX5_sums 79 = .ok (.goto (-37), 3) := by decide +kernel
theorem dX5_sums_82 : decode cX5_sums 82 = .ok (.aload_n 0, 1) := by decide +kernel
theorem dX5_sums_83 : decode cX5_sums 83 = .ok (.iload_n 3, 1) := by decide +kernel
theorem dX5_sums_84 : decode cX5_sums 84 = .ok (.i2l, 1) := by decide +kernel
theorem dX5_sums_85 : decode cX5_sums 85 = .ok (.lconst 1, 1) := by decide +kernel
theorem dX5_sums_86 : decode cX5_sums 86 = .ok (.invokevirtual 246, 3) := by decide +kernel
theorem dX5_sums_89 : decode cX5_sums 89 = .ok (.aload_n 0, 1) := by decide +kernel
theorem dX5_sums_90 : decode cX5_sums 90 = .ok (.iload 4, 2) := by decide +kernel
theorem dX5_sums_92 : decode cX5_sums 92 = .ok (.invokevirtual 93, 3) := by decide +kernel
theorem dX5_sums_95 : decode cX5_sums 95 = .ok (.ireturn, 1) := by decide +kernel
theorem dX5_duel_0 : decode cX5_duel 0 = .ok (.aload_n 0, 1) := by decide +kernel
theorem dX5_duel_1 : decode cX5_duel 1 = .ok (.iload_n 1, 1) := by decide +kernel
theorem dX5_duel_2 : decode cX5_duel 2 = .ok (.invokevirtual 233, 3) := by decide +kernel
theorem dX5_duel_5 : decode cX5_duel 5 = .ok (.istore_n 3, 1) := by decide +kernel
theorem dX5_duel_6 : decode cX5_duel 6 = .ok (.iload_n 3, 1) := by decide +kernel
theorem dX5_duel_7 : decode cX5_duel 7 = .ok (.ifCond .eq 5, 3) := by decide +kernel
theorem dX5_duel_10 : decode cX5_duel 10 = .ok (.iload_n 3, 1) := by decide +kernel
theorem dX5_duel_11 : decode cX5_duel 11 = .ok (.ireturn, 1) := by decide +kernel
theorem dX5_duel_12 : decode cX5_duel 12 = .ok (.iload_n 2, 1) := by decide +kernel
theorem dX5_duel_13 : decode cX5_duel 13 = .ok (.ifCond .lt 8, 3) := by decide +kernel
theorem dX5_duel_16 : decode cX5_duel 16 = .ok (.iload_n 2, 1) := by decide +kernel
theorem dX5_duel_17 : decode cX5_duel 17 = .ok (.iconst 2, 1) := by decide +kernel
theorem dX5_duel_18 : decode cX5_duel 18 = .ok (.if_icmp .le 5, 3) := by decide +kernel
theorem dX5_duel_21 : decode cX5_duel 21 = .ok (.iconst (-1), 1) := by decide +kernel
theorem dX5_duel_22 : decode cX5_duel 22 = .ok (.ireturn, 1) := by decide +kernel
theorem dX5_duel_23 : decode cX5_duel 23 = .ok (.aload_n 0, 1) := by decide +kernel
theorem dX5_duel_24 : decode cX5_duel 24 = .ok (.aload_n 0, 1) := by decide +kernel
theorem dX5_duel_25 : decode cX5_duel 25 = .ok (.getfield 32, 3) := by decide +kernel
theorem dX5_duel_28 : decode cX5_duel 28 = .ok (.aload_n 0, 1) := by decide +kernel
theorem dX5_duel_29 : decode cX5_duel 29 = .ok (.getfield 25, 3) := by decide +kernel
theorem dX5_duel_32 : decode cX5_duel 32 = .ok (.invokevirtual 160, 3) := by decide +kernel
theorem dX5_duel_35 : decode cX5_duel 35 = .ok (.aload_n 0, 1) := by decide +kernel
theorem dX5_duel_36 : decode cX5_duel 36 = .ok (.getfield 25, 3) := by decide +kernel
theorem dX5_duel_39 : decode cX5_duel 39 = .ok (.invokevirtual 181, 3) := by decide +kernel
theorem dX5_duel_42 : decode cX5_duel 42 = .ok (.iconst 2, 1) := by decide +kernel
theorem dX5_duel_43 : decode cX5_duel 43 = .ok (.iload_n 2, 1) := by decide +kernel
theorem dX5_duel_44 : decode cX5_duel 44 = .ok (.imul, 1) := by decide +kernel
theorem dX5_duel_45 : decode cX5_duel 45 = .ok (.iload_n 1, 1) := by decide +kernel
theorem dX5_duel_46 : decode cX5_duel 46 = .ok (.bipush (-9), 2) := by decide +kernel
theorem dX5_duel_48 : decode cX5_duel 48 = .ok (.bipush 9, 2) := by decide +kernel
theorem dX5_duel_50 : decode cX5_duel 50 = .ok (.invokestatic 262, 3) := by decide +kernel
theorem dX5_duel_53 : decode cX5_duel 53 = .ok (.invokevirtual 93, 3) := by decide +kernel
theorem dX5_duel_56 : decode cX5_duel 56 = .ok (.ireturn, 1) := by decide +kernel
theorem dX5_odds_0 : decode cX5_odds 0 = .ok (.aload_n 0, 1) := by decide +kernel
theorem dX5_odds_1 : decode cX5_odds 1 = .ok (.iload_n 2, 1) := by decide +kernel
theorem dX5_odds_2 : decode cX5_odds 2 = .ok (.invokevirtual 233, 3) := by decide +kernel
theorem dX5_odds_5 : decode cX5_odds 5 = .ok (.istore 4, 2) := by decide +kernel
theorem dX5_odds_7 : decode cX5_odds 7 = .ok (.iload 4, 2) := by decide +kernel
theorem dX5_odds_9 : decode cX5_odds 9 = .ok (.ifCond .eq 6, 3) := by decide +kernel
theorem dX5_odds_12 : decode cX5_odds 12 = .ok (.iload 4, 2) := by decide +kernel
theorem dX5_odds_14 : decode cX5_odds 14 = .ok (.ireturn, 1) := by decide +kernel
theorem dX5_odds_15 : decode cX5_odds 15 = .ok (.aload_n 0, 1) := by decide +kernel
theorem dX5_odds_16 : decode cX5_odds 16 = .ok (.iload_n 1, 1) := by decide +kernel
theorem dX5_odds_17 : decode cX5_odds 17 = .ok (.invokevirtual 146, 3) := by decide +kernel
theorem dX5_odds_20 : decode cX5_odds 20 = .ok (.ifCond .eq 13, 3) := by decide +kernel
theorem dX5_odds_23 : decode cX5_odds 23 = .ok (.iload_n 3, 1) := by decide +kernel
theorem dX5_odds_24 : decode cX5_odds 24 = .ok (.ifCond .lt 9, 3) := by decide +kernel
theorem dX5_odds_27 : decode cX5_odds 27 = .ok (.iload_n 3, 1) := by decide +kernel
theorem dX5_odds_28 : decode cX5_odds 28 = .ok (.bipush 12, 2) := by decide +kernel
theorem dX5_odds_30 : decode cX5_odds 30 = .ok (.if_icmp .le 5, 3) := by decide +kernel
theorem dX5_odds_33 : decode cX5_odds 33 = .ok (.iconst (-1), 1) := by decide +kernel
theorem dX5_odds_34 : decode cX5_odds 34 = .ok (.ireturn, 1) := by decide +kernel
theorem dX5_odds_35 : decode cX5_odds 35 = .ok (.aload_n 0, 1) := by decide +kernel
theorem dX5_odds_36 : decode cX5_odds 36 = .ok (.iload_n 1, 1) := by decide +kernel
theorem dX5_odds_37 : decode cX5_odds 37 = .ok (.invokevirtual 230, 3) := by decide +kernel
theorem dX5_odds_40 : decode cX5_odds 40 = .ok (.iload_n 2, 1) := by decide +kernel
theorem dX5_odds_41 : decode cX5_odds 41 = .ok (.ixor, 1) := by decide +kernel
theorem dX5_odds_42 : decode cX5_odds 42 = .ok (.istore 5, 2) := by decide +kernel
theorem dX5_odds_44 : decode cX5_odds 44 = .ok (.aload_n 0, 1) := by decide +kernel
theorem dX5_odds_45 : decode cX5_odds 45 = .ok (.getfield 32, 3) := by decide +kernel
theorem dX5_odds_48 : decode cX5_odds 48 = .ok (.aload_n 0, 1) := by decide +kernel
theorem dX5_odds_49 : decode cX5_odds 49 = .ok (.getfield 25, 3) := by decide +kernel
theorem dX5_odds_52 : decode cX5_odds 52 = .ok (.invokevirtual 160, 3) := by decide +kernel
theorem dX5_odds_55 : decode cX5_odds 55 = .ok (.invokevirtual 184, 3) := by decide +kernel
theorem dX5_odds_58 : decode cX5_odds 58 = .ok (.iload_n 2, 1) := by decide +kernel
theorem dX5_odds_59 : decode cX5_odds 59 = .ok (.ixor, 1) := by decide +kernel
theorem dX5_odds_60 : decode cX5_odds 60 = .ok (.istore 6, 2) := by decide +kernel
theorem dX5_odds_62 : decode cX5_odds 62 = .ok (.lconst 1, 1) := by decide +kernel
theorem dX5_odds_63 : decode cX5_odds 63 = .ok (.lstore 7, 2) := by decide +kernel
theorem dX5_odds_65 : decode cX5_odds 65 = .ok (.lconst 1, 1) := by decide +kernel
theorem dX5_odds_66 : decode cX5_odds 66 = .ok (.lstore 9, 2) := by decide +kernel
theorem dX5_odds_68 : decode cX5_odds 68 = .ok (.iconst 0, 1) := by decide +kernel
theorem dX5_odds_69 : decode cX5_odds 69 = .ok (.istore 11, 2) := by decide +kernel
theorem dX5_odds_71 : decode cX5_odds 71 = .ok (.iload 11, 2) := by decide +kernel
theorem dX5_odds_73 : decode cX5_odds 73 = .ok (.bipush 9, 2) := by decide +kernel
theorem dX5_odds_75 : decode cX5_odds 75 = .ok (.if_icmp .ge 37, 3) := by decide +kernel
theorem dX5_odds_78 : decode cX5_odds 78 = .ok (.lload 7, 2) := by decide +kernel
theorem dX5_odds_80 : decode cX5_odds 80 = .ok (.iload 5, 2) := by decide +kernel
theorem dX5_odds_82 : decode cX5_odds 82 = .ok (.iconst (-1), 1) := by decide +kernel
theorem dX5_odds_83 : decode cX5_odds 83 = .ok (.ixor, 1) := by decide +kernel
theorem dX5_odds_84 : decode cX5_odds 84 = .ok (.iload 6, 2) := by decide +kernel
theorem dX5_odds_86 : decode cX5_odds 86 = .ok (.iconst (-1), 1) := by decide +kernel
theorem dX5_odds_87 : decode cX5_odds 87 = .ok (.ixor, 1) := by decide +kernel
theorem dX5_odds_88 : decode cX5_odds 88 = .ok (.iload 11, 2) := by decide +kernel
theorem dX5_odds_90 : decode cX5_odds 90 = .ok (.iload_n 3, 1) := by decide +kernel
theorem dX5_odds_91 : decode cX5_odds 91 = .ok (.invokestatic 266, 3) := by decide +kernel
theorem dX5_odds_94 : decode cX5_odds 94 = .ok (.i2l, 1) := by decide +kernel
theorem dX5_odds_95 : decode cX5_odds 95 = .ok (.lmul, 1) := by decide +kernel
theorem dX5_odds_96 : decode cX5_odds 96 = .ok (.lstore 7, 2) := by decide +kernel
theorem dX5_odds_98 : decode cX5_odds 98 = .ok (.lload 9, 2) := by decide +kernel
theorem dX5_odds_100 : decode cX5_odds 100 = .ok (.ldc2_w 269, 3) := by decide +kernel
theorem dX5_odds_103 : decode cX5_odds 103 = .ok (.lmul, 1) := by decide +kernel
theorem dX5_odds_104 : decode cX5_odds 104 = .ok (.lstore 9, 2) := by decide +kernel
theorem dX5_odds_106 : decode cX5_odds 106 = .ok (.iinc 11 1, 3) := by decide +kernel
theorem dX5_odds_109 : decode cX5_odds 109 = .ok (.goto (-38), 3) := by decide +kernel
theorem dX5_odds_112 : decode cX5_odds 112 = .ok (.aload_n 0, 1) := by decide +kernel
theorem dX5_odds_113 : decode cX5_odds 113 = .ok (.lload 7, 2) := by decide +kernel
theorem dX5_odds_115 : decode cX5_odds 115 = .ok (.lload 9, 2) := by decide +kernel
theorem dX5_odds_117 : decode cX5_odds 117 = .ok (.invokevirtual 246, 3) := by decide +kernel
theorem dX5_odds_120 : decode cX5_odds 120 = .ok (.iconst 1, 1) := by decide +kernel
theorem dX5_odds_121 : decode cX5_odds 121 = .ok (.ireturn, 1) := by decide +kernel
theorem dX5_mid_0 : decode cX5_mid 0 = .ok (.aload_n 0, 1) := by decide +kernel
theorem dX5_mid_1 : decode cX5_mid 1 = .ok (.getfield 25, 3) := by decide +kernel
theorem dX5_mid_4 : decode cX5_mid 4 = .ok (.invokevirtual 187, 3) := by decide +kernel
theorem dX5_mid_7 : decode cX5_mid 7 = .ok (.ifCond .ne 6, 3) := by decide +kernel
theorem dX5_mid_10 : decode cX5_mid 10 = .ok (.bipush (-4), 2) := by decide +kernel
theorem dX5_mid_12 : decode cX5_mid 12 = .ok (.ireturn, 1) := by decide +kernel
theorem dX5_mid_13 : decode cX5_mid 13 = .ok (.aload_n 0, 1) := by decide +kernel
theorem dX5_mid_14 : decode cX5_mid 14 = .ok (.iload_n 1, 1) := by decide +kernel
theorem dX5_mid_15 : decode cX5_mid 15 = .ok (.invokevirtual 146, 3) := by decide +kernel
theorem dX5_mid_18 : decode cX5_mid 18 = .ok (.ifCond .eq 13, 3) := by decide +kernel
theorem dX5_mid_21 : decode cX5_mid 21 = .ok (.iload_n 2, 1) := by decide +kernel
theorem dX5_mid_22 : decode cX5_mid 22 = .ok (.ifCond .lt 9, 3) := by decide +kernel
theorem dX5_mid_25 : decode cX5_mid 25 = .ok (.iload_n 2, 1) := by decide +kernel
theorem dX5_mid_26 : decode cX5_mid 26 = .ok (.bipush 12, 2) := by decide +kernel
theorem dX5_mid_28 : decode cX5_mid 28 = .ok (.if_icmp .le 5, 3) := by decide +kernel
theorem dX5_mid_31 : decode cX5_mid 31 = .ok (.iconst (-1), 1) := by decide +kernel
theorem dX5_mid_32 : decode cX5_mid 32 = .ok (.ireturn, 1) := by decide +kernel
theorem dX5_mid_33 : decode cX5_mid 33 = .ok (.aload_n 0, 1) := by decide +kernel
theorem dX5_mid_34 : decode cX5_mid 34 = .ok (.iload_n 1, 1) := by decide +kernel
theorem dX5_mid_35 : decode cX5_mid 35 = .ok (.invokevirtual 230, 3) := by decide +kernel
theorem dX5_mid_38 : decode cX5_mid 38 = .ok (.istore_n 3, 1) := by decide +kernel
theorem dX5_mid_39 : decode cX5_mid 39 = .ok (.aload_n 0, 1) := by decide +kernel
theorem dX5_mid_40 : decode cX5_mid 40 = .ok (.getfield 32, 3) := by decide +kernel
theorem dX5_mid_43 : decode cX5_mid 43 = .ok (.aload_n 0, 1) := by decide +kernel
theorem dX5_mid_44 : decode cX5_mid 44 = .ok (.getfield 25, 3) := by decide +kernel
theorem dX5_mid_47 : decode cX5_mid 47 = .ok (.invokevirtual 160, 3) := by decide +kernel
theorem dX5_mid_50 : decode cX5_mid 50 = .ok (.invokevirtual 184, 3) := by decide +kernel
theorem dX5_mid_53 : decode cX5_mid 53 = .ok (.istore 4, 2) := by decide +kernel
theorem dX5_mid_55 : decode cX5_mid 55 = .ok (.lconst 0, 1) := by decide +kernel
theorem dX5_mid_56 : decode cX5_mid 56 = .ok (.lstore 5, 2) := by decide +kernel
theorem dX5_mid_58 : decode cX5_mid 58 = .ok (.iconst 0, 1) := by decide +kernel
theorem dX5_mid_59 : decode cX5_mid 59 = .ok (.istore 7, 2) := by decide +kernel
theorem dX5_mid_61 : decode cX5_mid 61 = .ok (.iload 7, 2) := by decide +kernel
theorem dX5_mid_63 : decode cX5_mid 63 = .ok (.bipush 9, 2) := by decide +kernel
theorem dX5_mid_65 : decode cX5_mid 65 = .ok (.if_icmp .ge 24, 3) := by decide +kernel
theorem dX5_mid_68 : decode cX5_mid 68 = .ok (.lload 5, 2) := by decide +kernel
theorem dX5_mid_70 : decode cX5_mid 70 = .ok (.iload_n 3, 1) := by decide +kernel
theorem dX5_mid_71 : decode cX5_mid 71 = .ok (.iload 4, 2) := by decide +kernel
theorem dX5_mid_73 : decode cX5_mid 73 = .ok (.iload 7, 2) := by decide +kernel
theorem dX5_mid_75 : decode cX5_mid 75 = .ok (.iload_n 2, 1) := by decide +kernel
theorem dX5_mid_76 : decode cX5_mid 76 = .ok (.invokestatic 266, 3) := by decide +kernel
theorem dX5_mid_79 : decode cX5_mid 79 = .ok (.i2l, 1) := by decide +kernel
theorem dX5_mid_80 : decode cX5_mid 80 = .ok (.ladd, 1) := by decide +kernel
theorem dX5_mid_81 : decode cX5_mid 81 = .ok (.lstore 5, 2) := by decide +kernel
theorem dX5_mid_83 : decode cX5_mid 83 = .ok (.iinc 7 1, 3) := by decide +kernel
theorem dX5_mid_86 : decode cX5_mid 86 = .ok (.goto (-25), 3) := by decide +kernel
theorem dX5_mid_89 : decode cX5_mid 89 = .ok (.aload_n 0, 1) := by decide +kernel
theorem dX5_mid_90 : decode cX5_mid 90 = .ok (.lload 5, 2) := by decide +kernel
theorem dX5_mid_92 : decode cX5_mid 92 = .ok (.ldc2_w 269, 3) := by decide +kernel
theorem dX5_mid_95 : decode cX5_mid 95 = .ok (.invokevirtual 246, 3) := by decide +kernel
theorem dX5_mid_98 : decode cX5_mid 98 = .ok (.iconst 1, 1) := by decide +kernel
theorem dX5_mid_99 : decode cX5_mid 99 = .ok (.ireturn, 1) := by decide +kernel
theorem dX5_lots_0 : decode cX5_lots 0 = .ok (.aload_n 0, 1) := by decide +kernel
theorem dX5_lots_1 : decode cX5_lots 1 = .ok (.getfield 25, 3) := by decide +kernel
theorem dX5_lots_4 : decode cX5_lots 4 = .ok (.invokevirtual 187, 3) := by decide +kernel
theorem dX5_lots_7 : decode cX5_lots 7 = .ok (.ifCond .ne 6, 3) := by decide +kernel
theorem dX5_lots_10 : decode cX5_lots 10 = .ok (.bipush (-4), 2) := by decide +kernel
theorem dX5_lots_12 : decode cX5_lots 12 = .ok (.ireturn, 1) := by decide +kernel
theorem dX5_lots_13 : decode cX5_lots 13 = .ok (.iload_n 1, 1) := by decide +kernel
theorem dX5_lots_14 : decode cX5_lots 14 = .ok (.iconst 1, 1) := by decide +kernel
theorem dX5_lots_15 : decode cX5_lots 15 = .ok (.if_icmp .lt 23, 3) := by decide +kernel
theorem dX5_lots_18 : decode cX5_lots 18 = .ok (.iload_n 1, 1) := by decide +kernel
theorem dX5_lots_19 : decode cX5_lots 19 = .ok (.bipush 20, 2) := by decide +kernel
theorem dX5_lots_21 : decode cX5_lots 21 = .ok (.if_icmp .gt 17, 3) := by decide +kernel
theorem dX5_lots_24 : decode cX5_lots 24 = .ok (.iload_n 2, 1) := by decide +kernel
theorem dX5_lots_25 : decode cX5_lots 25 = .ok (.iconst 1, 1) := by decide +kernel
theorem dX5_lots_26 : decode cX5_lots 26 = .ok (.if_icmp .lt 12, 3) := by decide +kernel
theorem dX5_lots_29 : decode cX5_lots 29 = .ok (.iload_n 2, 1) := by decide +kernel
theorem dX5_lots_30 : decode cX5_lots 30 = .ok (.i2l, 1) := by decide +kernel
theorem dX5_lots_31 : decode cX5_lots 31 = .ok (.ldc2_w 271, 3) := by decide +kernel
theorem dX5_lots_34 : decode cX5_lots 34 = .ok (.lcmp, 1) := by decide +kernel
theorem dX5_lots_35 : decode cX5_lots 35 = .ok (.ifCond .lt 5, 3) := by decide +kernel
theorem dX5_lots_38 : decode cX5_lots 38 = .ok (.iconst (-1), 1) := by decide +kernel
theorem dX5_lots_39 : decode cX5_lots 39 = .ok (.ireturn, 1) := by decide +kernel
theorem dX5_lots_40 : decode cX5_lots 40 = .ok (.aload_n 0, 1) := by decide +kernel
theorem dX5_lots_41 : decode cX5_lots 41 = .ok (.getfield 25, 3) := by decide +kernel
theorem dX5_lots_44 : decode cX5_lots 44 = .ok (.invokevirtual 188, 3) := by decide +kernel
theorem dX5_lots_47 : decode cX5_lots 47 = .ok (.iload_n 1, 1) := by decide +kernel
theorem dX5_lots_48 : decode cX5_lots 48 = .ok (.if_icmp .ge 6, 3) := by decide +kernel
theorem dX5_lots_51 : decode cX5_lots 51 = .ok (.bipush (-2), 2) := by decide +kernel
theorem dX5_lots_53 : decode cX5_lots 53 = .ok (.ireturn, 1) := by decide +kernel
theorem dX5_lots_54 : decode cX5_lots 54 = .ok (.iload_n 2, 1) := by decide +kernel
theorem dX5_lots_55 : decode cX5_lots 55 = .ok (.i2l, 1) := by decide +kernel
theorem dX5_lots_56 : decode cX5_lots 56 = .ok (.lstore_n 3, 1) := by decide +kernel
theorem dX5_lots_57 : decode cX5_lots 57 = .ok (.iconst 0, 1) := by decide +kernel
theorem dX5_lots_58 : decode cX5_lots 58 = .ok (.istore 5, 2) := by decide +kernel
theorem dX5_lots_60 : decode cX5_lots 60 = .ok (.iload 5, 2) := by decide +kernel
theorem dX5_lots_62 : decode cX5_lots 62 = .ok (.iload_n 1, 1) := by decide +kernel
theorem dX5_lots_63 : decode cX5_lots 63 = .ok (.if_icmp .ge 39, 3) := by decide +kernel
theorem dX5_lots_66 : decode cX5_lots 66 = .ok (.lload_n 3, 1) := by decide +kernel
theorem dX5_lots_67 : decode cX5_lots 67 = .ok (.ldc2_w 273, 3) := by decide +kernel
theorem dX5_lots_70 : decode cX5_lots 70 = .ok (.lmul, 1) := by decide +kernel
theorem dX5_lots_71 : decode cX5_lots 71 = .ok (.ldc2_w 271, 3) := by decide +kernel
theorem dX5_lots_74 : decode cX5_lots 74 = .ok (.lrem, 1) := by decide +kernel
theorem dX5_lots_75 : decode cX5_lots 75 = .ok (.lstore_n 3, 1) := by decide +kernel
theorem dX5_lots_76 : decode cX5_lots 76 = .ok (.aload_n 0, 1) := by decide +kernel
theorem dX5_lots_77 : decode cX5_lots 77 = .ok (.lload_n 3, 1) := by decide +kernel
theorem dX5_lots_78 : decode cX5_lots 78 = .ok (.ldc2_w 275, 3) := by decide +kernel
theorem dX5_lots_81 : decode cX5_lots 81 = .ok (.lrem, 1) := by decide +kernel
theorem dX5_lots_82 : decode cX5_lots 82 = .ok (.l2i, 1) := by decide +kernel
theorem dX5_lots_83 : decode cX5_lots 83 = .ok (.lload_n 3, 1) := by decide +kernel
theorem dX5_lots_84 : decode cX5_lots 84 = .ok (.ldc2_w 277, 3) := by decide +kernel
theorem dX5_lots_87 : decode cX5_lots 87 = .ok (.ldiv, 1) := by decide +kernel
theorem dX5_lots_88 : decode cX5_lots 88 = .ok (.ldc2_w 279, 3) := by decide +kernel
theorem dX5_lots_91 : decode cX5_lots 91 = .ok (.lrem, 1) := by decide +kernel
theorem dX5_lots_92 : decode cX5_lots 92 = .ok (.l2i, 1) := by decide +kernel
theorem dX5_lots_93 : decode cX5_lots 93 = .ok (.invokevirtual 281, 3) := by decide +kernel
theorem dX5_lots_96 : decode cX5_lots 96 = .ok (.iinc 5 1, 3) := by decide +kernel
theorem dX5_lots_99 : decode cX5_lots 99 = .ok (.goto (-39), 3) := by decide +kernel
theorem dX5_lots_102 : decode cX5_lots 102 = .ok (.aload_n 0, 1) := by decide +kernel
theorem dX5_lots_103 : decode cX5_lots 103 = .ok (.getfield 32, 3) := by decide +kernel
theorem dX5_lots_106 : decode cX5_lots 106 = .ok (.aload_n 0, 1) := by decide +kernel
theorem dX5_lots_107 : decode cX5_lots 107 = .ok (.getfield 25, 3) := by decide +kernel
theorem dX5_lots_110 : decode cX5_lots 110 = .ok (.invokevirtual 160, 3) := by decide +kernel
theorem dX5_lots_113 : decode cX5_lots 113 = .ok (.invokevirtual 184, 3) := by decide +kernel
theorem dX5_lots_116 : decode cX5_lots 116 = .ok (.ireturn, 1) := by decide +kernel
theorem dX5_asked_0 : decode cX5_asked 0 = .ok (.aload_n 0, 1) := by decide +kernel
theorem dX5_asked_1 : decode cX5_asked 1 = .ok (.getfield 60, 3) := by decide +kernel
theorem dX5_asked_4 : decode cX5_asked 4 = .ok (.ireturn, 1) := by decide +kernel
theorem dX5_upper_0 : decode cX5_upper 0 = .ok (.aload_n 0, 1) := by decide +kernel
theorem dX5_upper_1 : decode cX5_upper 1 = .ok (.getfield 63, 3) := by decide +kernel
theorem dX5_upper_4 : decode cX5_upper 4 = .ok (.lreturn, 1) := by decide +kernel
theorem dX5_lower_0 : decode cX5_lower 0 = .ok (.aload_n 0, 1) := by decide +kernel
theorem dX5_lower_1 : decode cX5_lower 1 = .ok (.getfield 67, 3) := by decide +kernel
theorem dX5_lower_4 : decode cX5_lower 4 = .ok (.lreturn, 1) := by decide +kernel
theorem dX5_count_0 : decode cX5_count 0 = .ok (.iload_n 1, 1) := by decide +kernel
theorem dX5_count_1 : decode cX5_count 1 = .ok (.ifCond .lt 9, 3) := by decide +kernel
theorem dX5_count_4 : decode cX5_count 4 = .ok (.iload_n 1, 1) := by decide +kernel
theorem dX5_count_5 : decode cX5_count 5 = .ok (.bipush 11, 2) := by decide +kernel
theorem dX5_count_7 : decode cX5_count 7 = .ok (.if_icmp .lt 7, 3) := by decide +kernel
theorem dX5_count_10 : decode cX5_count 10 = .ok (.iconst (-1), 1) := by decide +kernel
theorem dX5_count_11 : decode cX5_count 11 = .ok (.goto 8, 3) := by decide +kernel
theorem dX5_count_14 : decode cX5_count 14 = .ok (.aload_n 0, 1) := by decide +kernel
theorem dX5_count_15 : decode cX5_count 15 = .ok (.iload_n 1, 1) := by decide +kernel
theorem dX5_count_16 : decode cX5_count 16 = .ok (.invokevirtual 284, 3) := by decide +kernel
theorem dX5_count_19 : decode cX5_count 19 = .ok (.ireturn, 1) := by decide +kernel
theorem dX5_finding_0 : decode cX5_finding 0 = .ok (.aload_n 0, 1) := by decide +kernel
theorem dX5_finding_1 : decode cX5_finding 1 = .ok (.getfield 56, 3) := by decide +kernel
theorem dX5_finding_4 : decode cX5_finding 4 = .ok (.ireturn, 1) := by decide +kernel
theorem dX5_findings_0 : decode cX5_findings 0 = .ok (.iload_n 1, 1) := by decide +kernel
theorem dX5_findings_1 : decode cX5_findings 1 = .ok (.iconst 1, 1) := by decide +kernel
theorem dX5_findings_2 : decode cX5_findings 2 = .ok (.if_icmp .lt 8, 3) := by decide +kernel
theorem dX5_findings_5 : decode cX5_findings 5 = .ok (.iload_n 1, 1) := by decide +kernel
theorem dX5_findings_6 : decode cX5_findings 6 = .ok (.iconst 5, 1) := by decide +kernel
theorem dX5_findings_7 : decode cX5_findings 7 = .ok (.if_icmp .le 7, 3) := by decide +kernel
theorem dX5_findings_10 : decode cX5_findings 10 = .ok (.iconst (-1), 1) := by decide +kernel
theorem dX5_findings_11 : decode cX5_findings 11 = .ok (.goto 9, 3) := by decide +kernel
theorem dX5_findings_14 : decode cX5_findings 14 = .ok (.aload_n 0, 1) := by decide +kernel
theorem dX5_findings_15 : decode cX5_findings 15 = .ok (.getfield 53, 3) := by decide +kernel
theorem dX5_findings_18 : decode cX5_findings 18 = .ok (.iload_n 1, 1) := by decide +kernel
theorem dX5_findings_19 : decode cX5_findings 19 = .ok (.iaload, 1) := by decide +kernel
theorem dX5_findings_20 : decode cX5_findings 20 = .ok (.ireturn, 1) := by decide +kernel
theorem dX5_digest_0 : decode cX5_digest 0 = .ok (.ldc2_w 287, 3) := by decide +kernel
theorem dX5_digest_3 : decode cX5_digest 3 = .ok (.lstore_n 1, 1) := by decide +kernel
theorem dX5_digest_4 : decode cX5_digest 4 = .ok (.iconst 0, 1) := by decide +kernel
theorem dX5_digest_5 : decode cX5_digest 5 = .ok (.istore_n 3, 1) := by decide +kernel
theorem dX5_digest_6 : decode cX5_digest 6 = .ok (.iload_n 3, 1) := by decide +kernel
theorem dX5_digest_7 : decode cX5_digest 7 = .ok (.bipush 11, 2) := by decide +kernel
theorem dX5_digest_9 : decode cX5_digest 9 = .ok (.if_icmp .ge 22, 3) := by decide +kernel
theorem dX5_digest_12 : decode cX5_digest 12 = .ok (.ldc2_w 289, 3) := by decide +kernel
theorem dX5_digest_15 : decode cX5_digest 15 = .ok (.lload_n 1, 1) := by decide +kernel
theorem dX5_digest_16 : decode cX5_digest 16 = .ok (.lmul, 1) := by decide +kernel
theorem dX5_digest_17 : decode cX5_digest 17 = .ok (.aload_n 0, 1) := by decide +kernel
theorem dX5_digest_18 : decode cX5_digest 18 = .ok (.iload_n 3, 1) := by decide +kernel
theorem dX5_digest_19 : decode cX5_digest 19 = .ok (.invokevirtual 284, 3) := by decide +kernel
theorem dX5_digest_22 : decode cX5_digest 22 = .ok (.i2l, 1) := by decide +kernel
theorem dX5_digest_23 : decode cX5_digest 23 = .ok (.ladd, 1) := by decide +kernel
theorem dX5_digest_24 : decode cX5_digest 24 = .ok (.lstore_n 1, 1) := by decide +kernel
theorem dX5_digest_25 : decode cX5_digest 25 = .ok (.iinc 3 1, 3) := by decide +kernel
theorem dX5_digest_28 : decode cX5_digest 28 = .ok (.goto (-22), 3) := by decide +kernel
theorem dX5_digest_31 : decode cX5_digest 31 = .ok (.iconst 0, 1) := by decide +kernel
theorem dX5_digest_32 : decode cX5_digest 32 = .ok (.istore_n 3, 1) := by decide +kernel
theorem dX5_digest_33 : decode cX5_digest 33 = .ok (.iload_n 3, 1) := by decide +kernel
theorem dX5_digest_34 : decode cX5_digest 34 = .ok (.bipush 9, 2) := by decide +kernel
theorem dX5_digest_36 : decode cX5_digest 36 = .ok (.if_icmp .ge 50, 3) := by decide +kernel
theorem dX5_digest_39 : decode cX5_digest 39 = .ok (.aload_n 0, 1) := by decide +kernel
theorem dX5_digest_40 : decode cX5_digest 40 = .ok (.getfield 25, 3) := by decide +kernel
theorem dX5_digest_43 : decode cX5_digest 43 = .ok (.invokevirtual 187, 3) := by decide +kernel
theorem dX5_digest_46 : decode cX5_digest 46 = .ok (.ifCond .eq 40, 3) := by decide +kernel
theorem dX5_digest_49 : decode cX5_digest 49 = .ok (.iconst 0, 1) := by decide +kernel
theorem dX5_digest_50 : decode cX5_digest 50 = .ok (.istore 4, 2) := by decide +kernel
theorem dX5_digest_52 : decode cX5_digest 52 = .ok (.iload 4, 2) := by decide +kernel
theorem dX5_digest_54 : decode cX5_digest 54 = .ok (.bipush 6, 2) := by decide +kernel
theorem dX5_digest_56 : decode cX5_digest 56 = .ok (.if_icmp .ge 24, 3) := by decide +kernel
theorem dX5_digest_59 : decode cX5_digest 59 = .ok (.ldc2_w 289, 3) := by decide +kernel
theorem dX5_digest_62 : decode cX5_digest 62 = .ok (.lload_n 1, 1) := by decide +kernel
theorem dX5_digest_63 : decode cX5_digest 63 = .ok (.lmul, 1) := by decide +kernel
theorem dX5_digest_64 : decode cX5_digest 64 = .ok (.aload_n 0, 1) := by decide +kernel
theorem dX5_digest_65 : decode cX5_digest 65 = .ok (.iload_n 3, 1) := by decide +kernel
theorem dX5_digest_66 : decode cX5_digest 66 = .ok (.iload 4, 2) := by decide +kernel
theorem dX5_digest_68 : decode cX5_digest 68 = .ok (.invokevirtual 150, 3) := by decide +kernel
theorem dX5_digest_71 : decode cX5_digest 71 = .ok (.i2l, 1) := by decide +kernel
theorem dX5_digest_72 : decode cX5_digest 72 = .ok (.ladd, 1) := by decide +kernel
theorem dX5_digest_73 : decode cX5_digest 73 = .ok (.lstore_n 1, 1) := by decide +kernel
theorem dX5_digest_74 : decode cX5_digest 74 = .ok (.iinc 4 1, 3) := by decide +kernel
theorem dX5_digest_77 : decode cX5_digest 77 = .ok (.goto (-25), 3) := by decide +kernel
theorem dX5_digest_80 : decode cX5_digest 80 = .ok (.iinc 3 1, 3) := by decide +kernel
theorem dX5_digest_83 : decode cX5_digest 83 = .ok (.goto (-50), 3) := by decide +kernel
theorem dX5_digest_86 : decode cX5_digest 86 = .ok (.iconst 0, 1) := by decide +kernel
theorem dX5_digest_87 : decode cX5_digest 87 = .ok (.istore_n 3, 1) := by decide +kernel
theorem dX5_digest_88 : decode cX5_digest 88 = .ok (.iload_n 3, 1) := by decide +kernel
theorem dX5_digest_89 : decode cX5_digest 89 = .ok (.iconst 3, 1) := by decide +kernel
theorem dX5_digest_90 : decode cX5_digest 90 = .ok (.if_icmp .ge 42, 3) := by decide +kernel
theorem dX5_digest_93 : decode cX5_digest 93 = .ok (.ldc2_w 289, 3) := by decide +kernel
theorem dX5_digest_96 : decode cX5_digest 96 = .ok (.lload_n 1, 1) := by decide +kernel
theorem dX5_digest_97 : decode cX5_digest 97 = .ok (.lmul, 1) := by decide +kernel
theorem dX5_digest_98 : decode cX5_digest 98 = .ok (.aload_n 0, 1) := by decide +kernel
theorem dX5_digest_99 : decode cX5_digest 99 = .ok (.getfield 20, 3) := by decide +kernel
theorem dX5_digest_102 : decode cX5_digest 102 = .ok (.iload_n 3, 1) := by decide +kernel
theorem dX5_digest_103 : decode cX5_digest 103 = .ok (.aaload, 1) := by decide +kernel
theorem dX5_digest_104 : decode cX5_digest 104 = .ok (.invokevirtual 187, 3) := by decide +kernel
theorem dX5_digest_107 : decode cX5_digest 107 = .ok (.ifCond .eq 15, 3) := by decide +kernel
theorem dX5_digest_110 : decode cX5_digest 110 = .ok (.aload_n 0, 1) := by decide +kernel
theorem dX5_digest_111 : decode cX5_digest 111 = .ok (.getfield 20, 3) := by decide +kernel
theorem dX5_digest_114 : decode cX5_digest 114 = .ok (.iload_n 3, 1) := by decide +kernel
theorem dX5_digest_115 : decode cX5_digest 115 = .ok (.aaload, 1) := by decide +kernel
theorem dX5_digest_116 : decode cX5_digest 116 = .ok (.invokevirtual 206, 3) := by decide +kernel
theorem dX5_digest_119 : decode cX5_digest 119 = .ok (.goto 4, 3) := by decide +kernel
theorem dX5_digest_122 : decode cX5_digest 122 = .ok (.iconst (-1), 1) := by decide +kernel
theorem dX5_digest_123 : decode cX5_digest 123 = .ok (.i2l, 1) := by decide +kernel
theorem dX5_digest_124 : decode cX5_digest 124 = .ok (.ladd, 1) := by decide +kernel
theorem dX5_digest_125 : decode cX5_digest 125 = .ok (.lstore_n 1, 1) := by decide +kernel
theorem dX5_digest_126 : decode cX5_digest 126 = .ok (.iinc 3 1, 3) := by decide +kernel
theorem dX5_digest_129 : decode cX5_digest 129 = .ok (.goto (-41), 3) := by decide +kernel
theorem dX5_digest_132 : decode cX5_digest 132 = .ok (.iconst 0, 1) := by decide +kernel
theorem dX5_digest_133 : decode cX5_digest 133 = .ok (.istore_n 3, 1) := by decide +kernel
theorem dX5_digest_134 : decode cX5_digest 134 = .ok (.iload_n 3, 1) := by decide +kernel
theorem dX5_digest_135 : decode cX5_digest 135 = .ok (.bipush 6, 2) := by decide +kernel
theorem dX5_digest_137 : decode cX5_digest 137 = .ok (.if_icmp .ge 20, 3) := by decide +kernel
theorem dX5_digest_140 : decode cX5_digest 140 = .ok (.aload_n 0, 1) := by decide +kernel
theorem dX5_digest_141 : decode cX5_digest 141 = .ok (.getfield 11, 3) := by decide +kernel
theorem dX5_digest_144 : decode cX5_digest 144 = .ok (.iload_n 3, 1) := by decide +kernel
theorem dX5_digest_145 : decode cX5_digest 145 = .ok (.aaload, 1) := by decide +kernel
theorem dX5_digest_146 : decode cX5_digest 146 = .ok (.lload_n 1, 1) := by decide +kernel
theorem dX5_digest_147 : decode cX5_digest 147 = .ok (.invokevirtual 291, 3) := by decide +kernel
theorem dX5_digest_150 : decode cX5_digest 150 = .ok (.lstore_n 1, 1) := by decide +kernel
theorem dX5_digest_151 : decode cX5_digest 151 = .ok (.iinc 3 1, 3) := by decide +kernel
theorem dX5_digest_154 : decode cX5_digest 154 = .ok (.goto (-20), 3) := by decide +kernel
theorem dX5_digest_157 : decode cX5_digest 157 = .ok (.iconst 0, 1) := by decide +kernel
theorem dX5_digest_158 : decode cX5_digest 158 = .ok (.istore_n 3, 1) := by decide +kernel
theorem dX5_digest_159 : decode cX5_digest 159 = .ok (.iload_n 3, 1) := by decide +kernel
theorem dX5_digest_160 : decode cX5_digest 160 = .ok (.iconst 4, 1) := by decide +kernel
theorem dX5_digest_161 : decode cX5_digest 161 = .ok (.if_icmp .ge 20, 3) := by decide +kernel
theorem dX5_digest_164 : decode cX5_digest 164 = .ok (.aload_n 0, 1) := by decide +kernel
theorem dX5_digest_165 : decode cX5_digest 165 = .ok (.getfield 15, 3) := by decide +kernel
theorem dX5_digest_168 : decode cX5_digest 168 = .ok (.iload_n 3, 1) := by decide +kernel
theorem dX5_digest_169 : decode cX5_digest 169 = .ok (.aaload, 1) := by decide +kernel
theorem dX5_digest_170 : decode cX5_digest 170 = .ok (.lload_n 1, 1) := by decide +kernel
theorem dX5_digest_171 : decode cX5_digest 171 = .ok (.invokevirtual 291, 3) := by decide +kernel
theorem dX5_digest_174 : decode cX5_digest 174 = .ok (.lstore_n 1, 1) := by decide +kernel
theorem dX5_digest_175 : decode cX5_digest 175 = .ok (.iinc 3 1, 3) := by decide +kernel
theorem dX5_digest_178 : decode cX5_digest 178 = .ok (.goto (-19), 3) := by decide +kernel
theorem dX5_digest_181 : decode cX5_digest 181 = .ok (.lload_n 1, 1) := by decide +kernel
theorem dX5_digest_182 : decode cX5_digest 182 = .ok (.lreturn, 1) := by decide +kernel
theorem dX5_found_0 : decode cX5_found 0 = .ok (.aload_n 0, 1) := by decide +kernel
theorem dX5_found_1 : decode cX5_found 1 = .ok (.iload_n 1, 1) := by decide +kernel
theorem dX5_found_2 : decode cX5_found 2 = .ok (.putfield 56, 3) := by decide +kernel
theorem dX5_found_5 : decode cX5_found 5 = .ok (.iload_n 1, 1) := by decide +kernel
theorem dX5_found_6 : decode cX5_found 6 = .ok (.iconst 1, 1) := by decide +kernel
theorem dX5_found_7 : decode cX5_found 7 = .ok (.if_icmp .lt 18, 3) := by decide +kernel
theorem dX5_found_10 : decode cX5_found 10 = .ok (.iload_n 1, 1) := by decide +kernel
theorem dX5_found_11 : decode cX5_found 11 = .ok (.iconst 5, 1) := by decide +kernel
theorem dX5_found_12 : decode cX5_found 12 = .ok (.if_icmp .gt 13, 3) := by decide +kernel
theorem dX5_found_15 : decode cX5_found 15 = .ok (.aload_n 0, 1) := by decide +kernel
theorem dX5_found_16 : decode cX5_found 16 = .ok (.getfield 53, 3) := by decide +kernel
theorem dX5_found_19 : decode cX5_found 19 = .ok (.iload_n 1, 1) := by decide +kernel
theorem dX5_found_20 : decode cX5_found 20 = .ok (.dup2, 1) := by decide +kernel
theorem dX5_found_21 : decode cX5_found 21 = .ok (.iaload, 1) := by decide +kernel
theorem dX5_found_22 : decode cX5_found 22 = .ok (.iconst 1, 1) := by decide +kernel
theorem dX5_found_23 : decode cX5_found 23 = .ok (.iadd, 1) := by decide +kernel
theorem dX5_found_24 : decode cX5_found 24 = .ok (.iastore, 1) := by decide +kernel
theorem dX5_found_25 : decode cX5_found 25 = .ok (.bipush (-3), 2) := by decide +kernel
theorem dX5_found_27 : decode cX5_found 27 = .ok (.ireturn, 1) := by decide +kernel
theorem dX5_refusalOfMissing_0 : decode cX5_refusalOfMissing 0 = .ok (.aload_n 1, 1) := by decide +kernel
theorem dX5_refusalOfMissing_1 : decode cX5_refusalOfMissing 1 = .ok (.ifnonnull 5, 3) := by decide +kernel
theorem dX5_refusalOfMissing_4 : decode cX5_refusalOfMissing 4 = .ok (.iconst (-1), 1) := by decide +kernel
theorem dX5_refusalOfMissing_5 : decode cX5_refusalOfMissing 5 = .ok (.ireturn, 1) := by decide +kernel
theorem dX5_refusalOfMissing_6 : decode cX5_refusalOfMissing 6 = .ok (.aload_n 1, 1) := by decide +kernel
theorem dX5_refusalOfMissing_7 : decode cX5_refusalOfMissing 7 = .ok (.invokevirtual 106, 3) := by decide +kernel
theorem dX5_refusalOfMissing_10 : decode cX5_refusalOfMissing 10 = .ok (.ifCond .eq 7, 3) := by decide +kernel
theorem dX5_refusalOfMissing_13 : decode cX5_refusalOfMissing 13 = .ok (.iconst 0, 1) := by decide +kernel
theorem dX5_refusalOfMissing_14 : decode cX5_refusalOfMissing 14 = .ok (.goto 8, 3) := by decide +kernel
theorem dX5_refusalOfMissing_17 : decode cX5_refusalOfMissing 17 = .ok (.aload_n 0, 1) := by decide +kernel
theorem dX5_refusalOfMissing_18 : decode cX5_refusalOfMissing 18 = .ok (.iconst 1, 1) := by decide +kernel
theorem dX5_refusalOfMissing_19 : decode cX5_refusalOfMissing 19 = .ok (.invokevirtual 103, 3) := by decide +kernel
theorem dX5_refusalOfMissing_22 : decode cX5_refusalOfMissing 22 = .ok (.ireturn, 1) := by decide +kernel
theorem dX5_refusalOfPlace_0 : decode cX5_refusalOfPlace 0 = .ok (.aload_n 0, 1) := by decide +kernel
theorem dX5_refusalOfPlace_1 : decode cX5_refusalOfPlace 1 = .ok (.aload_n 1, 1) := by decide +kernel
theorem dX5_refusalOfPlace_2 : decode cX5_refusalOfPlace 2 = .ok (.invokevirtual 96, 3) := by decide +kernel
theorem dX5_refusalOfPlace_5 : decode cX5_refusalOfPlace 5 = .ok (.istore_n 3, 1) := by decide +kernel
theorem dX5_refusalOfPlace_6 : decode cX5_refusalOfPlace 6 = .ok (.iload_n 3, 1) := by decide +kernel
theorem dX5_refusalOfPlace_7 : decode cX5_refusalOfPlace 7 = .ok (.ifCond .ne 7, 3) := by decide +kernel
theorem dX5_refusalOfPlace_10 : decode cX5_refusalOfPlace 10 = .ok (.aload_n 1, 1) := by decide +kernel
theorem dX5_refusalOfPlace_11 : decode cX5_refusalOfPlace 11 = .ok (.ifnonnull 5, 3) := by decide +kernel
theorem dX5_refusalOfPlace_14 : decode cX5_refusalOfPlace 14 = .ok (.iload_n 3, 1) := by decide +kernel
theorem dX5_refusalOfPlace_15 : decode cX5_refusalOfPlace 15 = .ok (.ireturn, 1) := by decide +kernel
theorem dX5_refusalOfPlace_16 : decode cX5_refusalOfPlace 16 = .ok (.aload_n 1, 1) := by decide +kernel
theorem dX5_refusalOfPlace_17 : decode cX5_refusalOfPlace 17 = .ok (.iload_n 2, 1) := by decide +kernel
theorem dX5_refusalOfPlace_18 : decode cX5_refusalOfPlace 18 = .ok (.invokevirtual 295, 3) := by decide +kernel
theorem dX5_refusalOfPlace_21 : decode cX5_refusalOfPlace 21 = .ok (.ifCond .eq 7, 3) := by decide +kernel
theorem dX5_refusalOfPlace_24 : decode cX5_refusalOfPlace 24 = .ok (.iconst 0, 1) := by decide +kernel
theorem dX5_refusalOfPlace_25 : decode cX5_refusalOfPlace 25 = .ok (.goto 8, 3) := by decide +kernel
theorem dX5_refusalOfPlace_28 : decode cX5_refusalOfPlace 28 = .ok (.aload_n 0, 1) := by decide +kernel
theorem dX5_refusalOfPlace_29 : decode cX5_refusalOfPlace 29 = .ok (.iconst 2, 1) := by decide +kernel
theorem dX5_refusalOfPlace_30 : decode cX5_refusalOfPlace 30 = .ok (.invokevirtual 103, 3) := by decide +kernel
theorem dX5_refusalOfPlace_33 : decode cX5_refusalOfPlace 33 = .ok (.ireturn, 1) := by decide +kernel
theorem dX5_refusalOfSet_0 : decode cX5_refusalOfSet 0 = .ok (.aload_n 0, 1) := by decide +kernel
theorem dX5_refusalOfSet_1 : decode cX5_refusalOfSet 1 = .ok (.getfield 25, 3) := by decide +kernel
theorem dX5_refusalOfSet_4 : decode cX5_refusalOfSet 4 = .ok (.invokevirtual 187, 3) := by decide +kernel
theorem dX5_refusalOfSet_7 : decode cX5_refusalOfSet 7 = .ok (.ifCond .ne 6, 3) := by decide +kernel
theorem dX5_refusalOfSet_10 : decode cX5_refusalOfSet 10 = .ok (.bipush (-4), 2) := by decide +kernel
theorem dX5_refusalOfSet_12 : decode cX5_refusalOfSet 12 = .ok (.ireturn, 1) := by decide +kernel
theorem dX5_refusalOfSet_13 : decode cX5_refusalOfSet 13 = .ok (.iload_n 1, 1) := by decide +kernel
theorem dX5_refusalOfSet_14 : decode cX5_refusalOfSet 14 = .ok (.ifCond .lt 10, 3) := by decide +kernel
theorem dX5_refusalOfSet_17 : decode cX5_refusalOfSet 17 = .ok (.iload_n 1, 1) := by decide +kernel
theorem dX5_refusalOfSet_18 : decode cX5_refusalOfSet 18 = .ok (.sipush 511, 3) := by decide +kernel
theorem dX5_refusalOfSet_21 : decode cX5_refusalOfSet 21 = .ok (.if_icmp .le 7, 3) := by decide +kernel
theorem dX5_refusalOfSet_24 : decode cX5_refusalOfSet 24 = .ok (.iconst (-1), 1) := by decide +kernel
theorem dX5_refusalOfSet_25 : decode cX5_refusalOfSet 25 = .ok (.goto 4, 3) := by decide +kernel
theorem dX5_refusalOfSet_28 : decode cX5_refusalOfSet 28 = .ok (.iconst 0, 1) := by decide +kernel
theorem dX5_refusalOfSet_29 : decode cX5_refusalOfSet 29 = .ok (.ireturn, 1) := by decide +kernel
theorem dX5_refusalOfPairs_0 : decode cX5_refusalOfPairs 0 = .ok (.aload_n 0, 1) := by decide +kernel
theorem dX5_refusalOfPairs_1 : decode cX5_refusalOfPairs 1 = .ok (.iload_n 1, 1) := by decide +kernel
theorem dX5_refusalOfPairs_2 : decode cX5_refusalOfPairs 2 = .ok (.invokevirtual 146, 3) := by decide +kernel
theorem dX5_refusalOfPairs_5 : decode cX5_refusalOfPairs 5 = .ok (.ifCond .eq 7, 3) := by decide +kernel
theorem dX5_refusalOfPairs_8 : decode cX5_refusalOfPairs 8 = .ok (.aload_n 2, 1) := by decide +kernel
theorem dX5_refusalOfPairs_9 : decode cX5_refusalOfPairs 9 = .ok (.ifnonnull 5, 3) := by decide +kernel
theorem dX5_refusalOfPairs_12 : decode cX5_refusalOfPairs 12 = .ok (.iconst (-1), 1) := by decide +kernel
theorem dX5_refusalOfPairs_13 : decode cX5_refusalOfPairs 13 = .ok (.ireturn, 1) := by decide +kernel
theorem dX5_refusalOfPairs_14 : decode cX5_refusalOfPairs 14 = .ok (.aload_n 2, 1) := by decide +kernel
theorem dX5_refusalOfPairs_15 : decode cX5_refusalOfPairs 15 = .ok (.invokevirtual 106, 3) := by decide +kernel
theorem dX5_refusalOfPairs_18 : decode cX5_refusalOfPairs 18 = .ok (.ifCond .ne 9, 3) := by decide +kernel
theorem dX5_refusalOfPairs_21 : decode cX5_refusalOfPairs 21 = .ok (.aload_n 0, 1) := by decide +kernel
theorem dX5_refusalOfPairs_22 : decode cX5_refusalOfPairs 22 = .ok (.iconst 1, 1) := by decide +kernel
theorem dX5_refusalOfPairs_23 : decode cX5_refusalOfPairs 23 = .ok (.invokevirtual 103, 3) := by decide +kernel
theorem dX5_refusalOfPairs_26 : decode cX5_refusalOfPairs 26 = .ok (.ireturn, 1) := by decide +kernel
theorem dX5_refusalOfPairs_27 : decode cX5_refusalOfPairs 27 = .ok (.aload_n 2, 1) := by decide +kernel
theorem dX5_refusalOfPairs_28 : decode cX5_refusalOfPairs 28 = .ok (.invokevirtual 118, 3) := by decide +kernel
theorem dX5_refusalOfPairs_31 : decode cX5_refusalOfPairs 31 = .ok (.iconst 2, 1) := by decide +kernel
theorem dX5_refusalOfPairs_32 : decode cX5_refusalOfPairs 32 = .ok (.irem, 1) := by decide +kernel
theorem dX5_refusalOfPairs_33 : decode cX5_refusalOfPairs 33 = .ok (.ifCond .ne 12, 3) := by decide +kernel
theorem dX5_refusalOfPairs_36 : decode cX5_refusalOfPairs 36 = .ok (.aload_n 2, 1) := by decide +kernel
theorem dX5_refusalOfPairs_37 : decode cX5_refusalOfPairs 37 = .ok (.invokevirtual 118, 3) := by decide +kernel
theorem dX5_refusalOfPairs_40 : decode cX5_refusalOfPairs 40 = .ok (.bipush 16, 2) := by decide +kernel
theorem dX5_refusalOfPairs_42 : decode cX5_refusalOfPairs 42 = .ok (.if_icmp .le 9, 3) := by decide +kernel
theorem dX5_refusalOfPairs_45 : decode cX5_refusalOfPairs 45 = .ok (.aload_n 0, 1) := by decide +kernel
theorem dX5_refusalOfPairs_46 : decode cX5_refusalOfPairs 46 = .ok (.iconst 5, 1) := by decide +kernel
theorem dX5_refusalOfPairs_47 : decode cX5_refusalOfPairs 47 = .ok (.invokevirtual 103, 3) := by decide +kernel
theorem dX5_refusalOfPairs_50 : decode cX5_refusalOfPairs 50 = .ok (.ireturn, 1) := by decide +kernel
theorem dX5_refusalOfPairs_51 : decode cX5_refusalOfPairs 51 = .ok (.iconst 0, 1) := by decide +kernel
theorem dX5_refusalOfPairs_52 : decode cX5_refusalOfPairs 52 = .ok (.istore_n 3, 1) := by decide +kernel
theorem dX5_refusalOfPairs_53 : decode cX5_refusalOfPairs 53 = .ok (.iload_n 3, 1) := by decide +kernel
theorem dX5_refusalOfPairs_54 : decode cX5_refusalOfPairs 54 = .ok (.aload_n 2, 1) := by decide +kernel
theorem dX5_refusalOfPairs_55 : decode cX5_refusalOfPairs 55 = .ok (.invokevirtual 118, 3) := by decide +kernel
theorem dX5_refusalOfPairs_58 : decode cX5_refusalOfPairs 58 = .ok (.if_icmp .ge 47, 3) := by decide +kernel
theorem dX5_refusalOfPairs_61 : decode cX5_refusalOfPairs 61 = .ok (.aload_n 2, 1) := by decide +kernel
theorem dX5_refusalOfPairs_62 : decode cX5_refusalOfPairs 62 = .ok (.iload_n 3, 1) := by decide +kernel
theorem dX5_refusalOfPairs_63 : decode cX5_refusalOfPairs 63 = .ok (.iconst 1, 1) := by decide +kernel
theorem dX5_refusalOfPairs_64 : decode cX5_refusalOfPairs 64 = .ok (.iadd, 1) := by decide +kernel
theorem dX5_refusalOfPairs_65 : decode cX5_refusalOfPairs 65 = .ok (.invokevirtual 85, 3) := by decide +kernel
theorem dX5_refusalOfPairs_68 : decode cX5_refusalOfPairs 68 = .ok (.istore 4, 2) := by decide +kernel
theorem dX5_refusalOfPairs_70 : decode cX5_refusalOfPairs 70 = .ok (.aload_n 0, 1) := by decide +kernel
theorem dX5_refusalOfPairs_71 : decode cX5_refusalOfPairs 71 = .ok (.aload_n 2, 1) := by decide +kernel
theorem dX5_refusalOfPairs_72 : decode cX5_refusalOfPairs 72 = .ok (.iload_n 3, 1) := by decide +kernel
theorem dX5_refusalOfPairs_73 : decode cX5_refusalOfPairs 73 = .ok (.invokevirtual 85, 3) := by decide +kernel
theorem dX5_refusalOfPairs_76 : decode cX5_refusalOfPairs 76 = .ok (.invokevirtual 146, 3) := by decide +kernel
theorem dX5_refusalOfPairs_79 : decode cX5_refusalOfPairs 79 = .ok (.ifCond .eq 14, 3) := by decide +kernel
theorem dX5_refusalOfPairs_82 : decode cX5_refusalOfPairs 82 = .ok (.iload 4, 2) := by decide +kernel
theorem dX5_refusalOfPairs_84 : decode cX5_refusalOfPairs 84 = .ok (.ifCond .lt 9, 3) := by decide +kernel
theorem dX5_refusalOfPairs_87 : decode cX5_refusalOfPairs 87 = .ok (.iload 4, 2) := by decide +kernel
theorem dX5_refusalOfPairs_89 : decode cX5_refusalOfPairs 89 = .ok (.iconst 1, 1) := by decide +kernel
theorem dX5_refusalOfPairs_90 : decode cX5_refusalOfPairs 90 = .ok (.if_icmp .le 9, 3) := by decide +kernel
theorem dX5_refusalOfPairs_93 : decode cX5_refusalOfPairs 93 = .ok (.aload_n 0, 1) := by decide +kernel
theorem dX5_refusalOfPairs_94 : decode cX5_refusalOfPairs 94 = .ok (.iconst 3, 1) := by decide +kernel
theorem dX5_refusalOfPairs_95 : decode cX5_refusalOfPairs 95 = .ok (.invokevirtual 103, 3) := by decide +kernel
theorem dX5_refusalOfPairs_98 : decode cX5_refusalOfPairs 98 = .ok (.ireturn, 1) := by decide +kernel
theorem dX5_refusalOfPairs_99 : decode cX5_refusalOfPairs 99 = .ok (.iinc 3 2, 3) := by decide +kernel
theorem dX5_refusalOfPairs_102 : decode cX5_refusalOfPairs 102 = .ok (.goto (-49), 3) := by decide +kernel
theorem dX5_refusalOfPairs_105 : decode cX5_refusalOfPairs 105 = .ok (.iconst 0, 1) := by decide +kernel
theorem dX5_refusalOfPairs_106 : decode cX5_refusalOfPairs 106 = .ok (.ireturn, 1) := by decide +kernel
theorem dX5_rowAt_0 : decode cX5_rowAt 0 = .ok (.iload_n 1, 1) := by decide +kernel
theorem dX5_rowAt_1 : decode cX5_rowAt 1 = .ok (.ifCond .lt 18, 3) := by decide +kernel
theorem dX5_rowAt_4 : decode cX5_rowAt 4 = .ok (.iload_n 1, 1) := by decide +kernel
theorem dX5_rowAt_5 : decode cX5_rowAt 5 = .ok (.bipush 6, 2) := by decide +kernel
theorem dX5_rowAt_7 : decode cX5_rowAt 7 = .ok (.if_icmp .ge 12, 3) := by decide +kernel
theorem dX5_rowAt_10 : decode cX5_rowAt 10 = .ok (.aload_n 0, 1) := by decide +kernel
theorem dX5_rowAt_11 : decode cX5_rowAt 11 = .ok (.getfield 11, 3) := by decide +kernel
theorem dX5_rowAt_14 : decode cX5_rowAt 14 = .ok (.iload_n 1, 1) := by decide +kernel
theorem dX5_rowAt_15 : decode cX5_rowAt 15 = .ok (.aaload, 1) := by decide +kernel
theorem dX5_rowAt_16 : decode cX5_rowAt 16 = .ok (.goto 4, 3) := by decide +kernel
theorem dX5_rowAt_19 : decode cX5_rowAt 19 = .ok (.aconst_null, 1) := by decide +kernel
theorem dX5_rowAt_20 : decode cX5_rowAt 20 = .ok (.areturn, 1) := by decide +kernel
theorem dX5_textAt_0 : decode cX5_textAt 0 = .ok (.iload_n 1, 1) := by decide +kernel
theorem dX5_textAt_1 : decode cX5_textAt 1 = .ok (.ifCond .lt 17, 3) := by decide +kernel
theorem dX5_textAt_4 : decode cX5_textAt 4 = .ok (.iload_n 1, 1) := by decide +kernel
theorem dX5_textAt_5 : decode cX5_textAt 5 = .ok (.iconst 4, 1) := by decide +kernel
theorem dX5_textAt_6 : decode cX5_textAt 6 = .ok (.if_icmp .ge 12, 3) := by decide +kernel
theorem dX5_textAt_9 : decode cX5_textAt 9 = .ok (.aload_n 0, 1) := by decide +kernel
theorem dX5_textAt_10 : decode cX5_textAt 10 = .ok (.getfield 15, 3) := by decide +kernel
theorem dX5_textAt_13 : decode cX5_textAt 13 = .ok (.iload_n 1, 1) := by decide +kernel
theorem dX5_textAt_14 : decode cX5_textAt 14 = .ok (.aaload, 1) := by decide +kernel
theorem dX5_textAt_15 : decode cX5_textAt 15 = .ok (.goto 4, 3) := by decide +kernel
theorem dX5_textAt_18 : decode cX5_textAt 18 = .ok (.aconst_null, 1) := by decide +kernel
theorem dX5_textAt_19 : decode cX5_textAt 19 = .ok (.areturn, 1) := by decide +kernel
theorem dX5_keptAt_0 : decode cX5_keptAt 0 = .ok (.iload_n 1, 1) := by decide +kernel
theorem dX5_keptAt_1 : decode cX5_keptAt 1 = .ok (.ifCond .lt 17, 3) := by decide +kernel
theorem dX5_keptAt_4 : decode cX5_keptAt 4 = .ok (.iload_n 1, 1) := by decide +kernel
theorem dX5_keptAt_5 : decode cX5_keptAt 5 = .ok (.iconst 3, 1) := by decide +kernel
theorem dX5_keptAt_6 : decode cX5_keptAt 6 = .ok (.if_icmp .ge 12, 3) := by decide +kernel
theorem dX5_keptAt_9 : decode cX5_keptAt 9 = .ok (.aload_n 0, 1) := by decide +kernel
theorem dX5_keptAt_10 : decode cX5_keptAt 10 = .ok (.getfield 20, 3) := by decide +kernel
theorem dX5_keptAt_13 : decode cX5_keptAt 13 = .ok (.iload_n 1, 1) := by decide +kernel
theorem dX5_keptAt_14 : decode cX5_keptAt 14 = .ok (.aaload, 1) := by decide +kernel
theorem dX5_keptAt_15 : decode cX5_keptAt 15 = .ok (.goto 4, 3) := by decide +kernel
theorem dX5_keptAt_18 : decode cX5_keptAt 18 = .ok (.aconst_null, 1) := by decide +kernel
theorem dX5_keptAt_19 : decode cX5_keptAt 19 = .ok (.areturn, 1) := by decide +kernel
theorem dX5_isLamp_0 : decode cX5_isLamp 0 = .ok (.aload_n 0, 1) := by decide +kernel
theorem dX5_isLamp_1 : decode cX5_isLamp 1 = .ok (.getfield 25, 3) := by decide +kernel
theorem dX5_isLamp_4 : decode cX5_isLamp 4 = .ok (.invokevirtual 187, 3) := by decide +kernel
theorem dX5_isLamp_7 : decode cX5_isLamp 7 = .ok (.ifCond .eq 17, 3) := by decide +kernel
theorem dX5_isLamp_10 : decode cX5_isLamp 10 = .ok (.iload_n 1, 1) := by decide +kernel
theorem dX5_isLamp_11 : decode cX5_isLamp 11 = .ok (.ifCond .lt 13, 3) := by decide +kernel
theorem dX5_isLamp_14 : decode cX5_isLamp 14 = .ok (.iload_n 1, 1) := by decide +kernel
theorem dX5_isLamp_15 : decode cX5_isLamp 15 = .ok (.bipush 9, 2) := by decide +kernel
theorem dX5_isLamp_17 : decode cX5_isLamp 17 = .ok (.if_icmp .ge 7, 3) := by decide +kernel
theorem dX5_isLamp_20 : decode cX5_isLamp 20 = .ok (.iconst 1, 1) := by decide +kernel
theorem dX5_isLamp_21 : decode cX5_isLamp 21 = .ok (.goto 4, 3) := by decide +kernel
theorem dX5_isLamp_24 : decode cX5_isLamp 24 = .ok (.iconst 0, 1) := by decide +kernel
theorem dX5_isLamp_25 : decode cX5_isLamp 25 = .ok (.ireturn, 1) := by decide +kernel
theorem dX5_hasStep_0 : decode cX5_hasStep 0 = .ok (.iload_n 2, 1) := by decide +kernel
theorem dX5_hasStep_1 : decode cX5_hasStep 1 = .ok (.ifCond .lt 22, 3) := by decide +kernel
theorem dX5_hasStep_4 : decode cX5_hasStep 4 = .ok (.iload_n 2, 1) := by decide +kernel
theorem dX5_hasStep_5 : decode cX5_hasStep 5 = .ok (.aload_n 0, 1) := by decide +kernel
theorem dX5_hasStep_6 : decode cX5_hasStep 6 = .ok (.getfield 32, 3) := by decide +kernel
theorem dX5_hasStep_9 : decode cX5_hasStep 9 = .ok (.iload_n 1, 1) := by decide +kernel
theorem dX5_hasStep_10 : decode cX5_hasStep 10 = .ok (.invokevirtual 154, 3) := by decide +kernel
theorem dX5_hasStep_13 : decode cX5_hasStep 13 = .ok (.invokestatic 298, 3) := by decide +kernel
theorem dX5_hasStep_16 : decode cX5_hasStep 16 = .ok (.if_icmp .gt 7, 3) := by decide +kernel
theorem dX5_hasStep_19 : decode cX5_hasStep 19 = .ok (.iconst 1, 1) := by decide +kernel
theorem dX5_hasStep_20 : decode cX5_hasStep 20 = .ok (.goto 4, 3) := by decide +kernel
theorem dX5_hasStep_23 : decode cX5_hasStep 23 = .ok (.iconst 0, 1) := by decide +kernel
theorem dX5_hasStep_24 : decode cX5_hasStep 24 = .ok (.ireturn, 1) := by decide +kernel
theorem dX5_touchedBy_0 : decode cX5_touchedBy 0 = .ok (.iload_n 0, 1) := by decide +kernel
theorem dX5_touchedBy_1 : decode cX5_touchedBy 1 = .ok (.ifCond .lt 19, 3) := by decide +kernel
theorem dX5_touchedBy_4 : decode cX5_touchedBy 4 = .ok (.iload_n 0, 1) := by decide +kernel
theorem dX5_touchedBy_5 : decode cX5_touchedBy 5 = .ok (.getstatic 301, 3) := by decide +kernel
theorem dX5_touchedBy_8 : decode cX5_touchedBy 8 = .ok (.arraylength, 1) := by decide +kernel
theorem dX5_touchedBy_9 : decode cX5_touchedBy 9 = .ok (.if_icmp .ge 11, 3) := by decide +kernel
theorem dX5_touchedBy_12 : decode cX5_touchedBy 12 = .ok (.getstatic 301, 3) := by decide +kernel
theorem dX5_touchedBy_15 : decode cX5_touchedBy 15 = .ok (.iload_n 0, 1) := by decide +kernel
theorem dX5_touchedBy_16 : decode cX5_touchedBy 16 = .ok (.iaload, 1) := by decide +kernel
theorem dX5_touchedBy_17 : decode cX5_touchedBy 17 = .ok (.goto 4, 3) := by decide +kernel
theorem dX5_touchedBy_20 : decode cX5_touchedBy 20 = .ok (.iconst 0, 1) := by decide +kernel
theorem dX5_touchedBy_21 : decode cX5_touchedBy 21 = .ok (.ireturn, 1) := by decide +kernel
theorem dX5_makeAnew_0 : decode cX5_makeAnew 0 = .ok (.aload_n 1, 1) := by decide +kernel
theorem dX5_makeAnew_1 : decode cX5_makeAnew 1 = .ok (.ifnull 8, 3) := by decide +kernel
theorem dX5_makeAnew_4 : decode cX5_makeAnew 4 = .ok (.iload_n 2, 1) := by decide +kernel
theorem dX5_makeAnew_5 : decode cX5_makeAnew 5 = .ok (.iload_n 3, 1) := by decide +kernel
theorem dX5_makeAnew_6 : decode cX5_makeAnew 6 = .ok (.if_icmp .le 5, 3) := by decide +kernel
theorem dX5_makeAnew_9 : decode cX5_makeAnew 9 = .ok (.iconst (-1), 1) := by decide +kernel
theorem dX5_makeAnew_10 : decode cX5_makeAnew 10 = .ok (.ireturn, 1) := by decide +kernel
theorem dX5_makeAnew_11 : decode cX5_makeAnew 11 = .ok (.iload_n 2, 1) := by decide +kernel
theorem dX5_makeAnew_12 : decode cX5_makeAnew 12 = .ok (.ifCond .ge 9, 3) := by decide +kernel
theorem dX5_makeAnew_15 : decode cX5_makeAnew 15 = .ok (.aload_n 0, 1) := by decide +kernel
theorem dX5_makeAnew_16 : decode cX5_makeAnew 16 = .ok (.iconst 5, 1) := by decide +kernel
theorem dX5_makeAnew_17 : decode cX5_makeAnew 17 = .ok (.invokevirtual 103, 3) := by decide +kernel
theorem dX5_makeAnew_20 : decode cX5_makeAnew 20 = .ok (.ireturn, 1) := by decide +kernel
theorem dX5_makeAnew_21 : decode cX5_makeAnew 21 = .ok (.aload_n 1, 1) := by decide +kernel
theorem dX5_makeAnew_22 : decode cX5_makeAnew 22 = .ok (.iload_n 2, 1) := by decide +kernel
theorem dX5_makeAnew_23 : decode cX5_makeAnew 23 = .ok (.iload 4, 2) := by decide +kernel
theorem dX5_makeAnew_25 : decode cX5_makeAnew 25 = .ok (.invokevirtual 240, 3) := by decide +kernel
theorem dX5_makeAnew_28 : decode cX5_makeAnew 28 = .ok (.iload_n 2, 1) := by decide +kernel
theorem dX5_makeAnew_29 : decode cX5_makeAnew 29 = .ok (.ireturn, 1) := by decide +kernel
theorem dX5_tellAsked_0 : decode cX5_tellAsked 0 = .ok (.aload_n 0, 1) := by decide +kernel
theorem dX5_tellAsked_1 : decode cX5_tellAsked 1 = .ok (.iload_n 1, 1) := by decide +kernel
theorem dX5_tellAsked_2 : decode cX5_tellAsked 2 = .ok (.putfield 60, 3) := by decide +kernel
theorem dX5_tellAsked_5 : decode cX5_tellAsked 5 = .ok (.iconst 1, 1) := by decide +kernel
theorem dX5_tellAsked_6 : decode cX5_tellAsked 6 = .ok (.ireturn, 1) := by decide +kernel
theorem dX5_tellParts_0 : decode cX5_tellParts 0 = .ok (.lload_n 1, 1) := by decide +kernel
theorem dX5_tellParts_1 : decode cX5_tellParts 1 = .ok (.lload_n 3, 1) := by decide +kernel
theorem dX5_tellParts_2 : decode cX5_tellParts 2 = .ok (.invokestatic 304, 3) := by decide +kernel
theorem dX5_tellParts_5 : decode cX5_tellParts 5 = .ok (.lstore 5, 2) := by decide +kernel
theorem dX5_tellParts_7 : decode cX5_tellParts 7 = .ok (.lload 5, 2) := by decide +kernel
theorem dX5_tellParts_9 : decode cX5_tellParts 9 = .ok (.lconst 0, 1) := by decide +kernel
theorem dX5_tellParts_10 : decode cX5_tellParts 10 = .ok (.lcmp, 1) := by decide +kernel
theorem dX5_tellParts_11 : decode cX5_tellParts 11 = .ok (.ifCond .le 19, 3) := by decide +kernel
theorem dX5_tellParts_14 : decode cX5_tellParts 14 = .ok (.aload_n 0, 1) := by decide +kernel
theorem dX5_tellParts_15 : decode cX5_tellParts 15 = .ok (.lload_n 1, 1) := by decide +kernel
theorem dX5_tellParts_16 : decode cX5_tellParts 16 = .ok (.lload 5, 2) := by decide +kernel
theorem dX5_tellParts_18 : decode cX5_tellParts 18 = .ok (.ldiv, 1) := by decide +kernel
theorem dX5_tellParts_19 : decode cX5_tellParts 19 = .ok (.putfield 63, 3) := by decide +kernel
theorem dX5_tellParts_22 : decode cX5_tellParts 22 = .ok (.aload_n 0, 1) := by decide +kernel
theorem dX5_tellParts_23 : decode cX5_tellParts 23 = .ok (.lload_n 3, 1) := by decide +kernel
theorem dX5_tellParts_24 : decode cX5_tellParts 24 = .ok (.lload 5, 2) := by decide +kernel
theorem dX5_tellParts_26 : decode cX5_tellParts 26 = .ok (.ldiv, 1) := by decide +kernel
theorem dX5_tellParts_27 : decode cX5_tellParts 27 = .ok (.putfield 67, 3) := by decide +kernel
theorem dX5_tellParts_30 : decode cX5_tellParts 30 = .ok (.return_, 1) := by decide +kernel
theorem dX5_commonDivisor_0 : decode cX5_commonDivisor 0 = .ok (.lload_n 0, 1) := by decide +kernel
theorem dX5_commonDivisor_1 : decode cX5_commonDivisor 1 = .ok (.lstore 4, 2) := by decide +kernel
theorem dX5_commonDivisor_3 : decode cX5_commonDivisor 3 = .ok (.lload_n 2, 1) := by decide +kernel
theorem dX5_commonDivisor_4 : decode cX5_commonDivisor 4 = .ok (.lstore 6, 2) := by decide +kernel
theorem dX5_commonDivisor_6 : decode cX5_commonDivisor 6 = .ok (.iconst 0, 1) := by decide +kernel
theorem dX5_commonDivisor_7 : decode cX5_commonDivisor 7 = .ok (.istore 8, 2) := by decide +kernel
theorem dX5_commonDivisor_9 : decode cX5_commonDivisor 9 = .ok (.iload 8, 2) := by decide +kernel
theorem dX5_commonDivisor_11 : decode cX5_commonDivisor 11 = .ok (.sipush 200, 3) := by decide +kernel
theorem dX5_commonDivisor_14 : decode cX5_commonDivisor 14 = .ok (.if_icmp .ge 31, 3) := by decide +kernel
theorem dX5_commonDivisor_17 : decode cX5_commonDivisor 17 = .ok (.lload 6, 2) := by decide +kernel
theorem dX5_commonDivisor_19 : decode cX5_commonDivisor 19 = .ok (.lconst 0, 1) := by decide +kernel
theorem dX5_commonDivisor_20 : decode cX5_commonDivisor 20 = .ok (.lcmp, 1) := by decide +kernel
theorem dX5_commonDivisor_21 : decode cX5_commonDivisor 21 = .ok (.ifCond .eq 24, 3) := by decide +kernel
theorem dX5_commonDivisor_24 : decode cX5_commonDivisor 24 = .ok (.lload 4, 2) := by decide +kernel
theorem dX5_commonDivisor_26 : decode cX5_commonDivisor 26 = .ok (.lload 6, 2) := by decide +kernel
theorem dX5_commonDivisor_28 : decode cX5_commonDivisor 28 = .ok (.lrem, 1) := by decide +kernel
theorem dX5_commonDivisor_29 : decode cX5_commonDivisor 29 = .ok (.lstore 9, 2) := by decide +kernel
theorem dX5_commonDivisor_31 : decode cX5_commonDivisor 31 = .ok (.lload 6, 2) := by decide +kernel
theorem dX5_commonDivisor_33 : decode cX5_commonDivisor 33 = .ok (.lstore 4, 2) := by decide +kernel
theorem dX5_commonDivisor_35 : decode cX5_commonDivisor 35 = .ok (.lload 9, 2) := by decide +kernel
theorem dX5_commonDivisor_37 : decode cX5_commonDivisor 37 = .ok (.lstore 6, 2) := by decide +kernel
theorem dX5_commonDivisor_39 : decode cX5_commonDivisor 39 = .ok (.iinc 8 1, 3) := by decide +kernel
theorem dX5_commonDivisor_42 : decode cX5_commonDivisor 42 = .ok (.goto (-33), 3) := by decide +kernel
theorem dX5_commonDivisor_45 : decode cX5_commonDivisor 45 = .ok (.lload 4, 2) := by decide +kernel
theorem dX5_commonDivisor_47 : decode cX5_commonDivisor 47 = .ok (.lreturn, 1) := by decide +kernel
theorem dX5_toldOfLamp_0 : decode cX5_toldOfLamp 0 = .ok (.aload_n 0, 1) := by decide +kernel
theorem dX5_toldOfLamp_1 : decode cX5_toldOfLamp 1 = .ok (.getfield 25, 3) := by decide +kernel
theorem dX5_toldOfLamp_4 : decode cX5_toldOfLamp 4 = .ok (.invokevirtual 160, 3) := by decide +kernel
theorem dX5_toldOfLamp_7 : decode cX5_toldOfLamp 7 = .ok (.istore_n 3, 1) := by decide +kernel
theorem dX5_toldOfLamp_8 : decode cX5_toldOfLamp 8 = .ok (.iload_n 2, 1) := by decide +kernel
theorem dX5_toldOfLamp_9 : decode cX5_toldOfLamp 9 = .ok (.tableswitch 77 0 4 #[35, 44, 50, 63, 72], 35) := by decide +kernel
theorem dX5_toldOfLamp_44 : decode cX5_toldOfLamp 44 = .ok (.aload_n 0, 1) := by decide +kernel
theorem dX5_toldOfLamp_45 : decode cX5_toldOfLamp 45 = .ok (.getfield 32, 3) := by decide +kernel
theorem dX5_toldOfLamp_48 : decode cX5_toldOfLamp 48 = .ok (.iload_n 1, 1) := by decide +kernel
theorem dX5_toldOfLamp_49 : decode cX5_toldOfLamp 49 = .ok (.invokevirtual 154, 3) := by decide +kernel
theorem dX5_toldOfLamp_52 : decode cX5_toldOfLamp 52 = .ok (.ireturn, 1) := by decide +kernel
theorem dX5_toldOfLamp_53 : decode cX5_toldOfLamp 53 = .ok (.iload_n 3, 1) := by decide +kernel
theorem dX5_toldOfLamp_54 : decode cX5_toldOfLamp 54 = .ok (.iload_n 1, 1) := by decide +kernel
theorem dX5_toldOfLamp_55 : decode cX5_toldOfLamp 55 = .ok (.invokestatic 162, 3) := by decide +kernel
theorem dX5_toldOfLamp_58 : decode cX5_toldOfLamp 58 = .ok (.ireturn, 1) := by decide +kernel
theorem dX5_toldOfLamp_59 : decode cX5_toldOfLamp 59 = .ok (.aload_n 0, 1) := by decide +kernel
theorem dX5_toldOfLamp_60 : decode cX5_toldOfLamp 60 = .ok (.getfield 32, 3) := by decide +kernel
theorem dX5_toldOfLamp_63 : decode cX5_toldOfLamp 63 = .ok (.iload_n 3, 1) := by decide +kernel
theorem dX5_toldOfLamp_64 : decode cX5_toldOfLamp 64 = .ok (.invokevirtual 184, 3) := by decide +kernel
theorem dX5_toldOfLamp_67 : decode cX5_toldOfLamp 67 = .ok (.iload_n 1, 1) := by decide +kernel
theorem dX5_toldOfLamp_68 : decode cX5_toldOfLamp 68 = .ok (.ishr, 1) := by decide +kernel
theorem dX5_toldOfLamp_69 : decode cX5_toldOfLamp 69 = .ok (.iconst 1, 1) := by decide +kernel
theorem dX5_toldOfLamp_70 : decode cX5_toldOfLamp 70 = .ok (.iand, 1) := by decide +kernel
theorem dX5_toldOfLamp_71 : decode cX5_toldOfLamp 71 = .ok (.ireturn, 1) := by decide +kernel
theorem dX5_toldOfLamp_72 : decode cX5_toldOfLamp 72 = .ok (.iload_n 3, 1) := by decide +kernel
theorem dX5_toldOfLamp_73 : decode cX5_toldOfLamp 73 = .ok (.invokestatic 203, 3) := by decide +kernel
theorem dX5_toldOfLamp_76 : decode cX5_toldOfLamp 76 = .ok (.iload_n 1, 1) := by decide +kernel
theorem dX5_toldOfLamp_77 : decode cX5_toldOfLamp 77 = .ok (.ishr, 1) := by decide +kernel
theorem dX5_toldOfLamp_78 : decode cX5_toldOfLamp 78 = .ok (.iconst 1, 1) := by decide +kernel
theorem dX5_toldOfLamp_79 : decode cX5_toldOfLamp 79 = .ok (.iand, 1) := by decide +kernel
theorem dX5_toldOfLamp_80 : decode cX5_toldOfLamp 80 = .ok (.ireturn, 1) := by decide +kernel
theorem dX5_toldOfLamp_81 : decode cX5_toldOfLamp 81 = .ok (.iload_n 1, 1) := by decide +kernel
theorem dX5_toldOfLamp_82 : decode cX5_toldOfLamp 82 = .ok (.invokestatic 178, 3) := by decide +kernel
theorem dX5_toldOfLamp_85 : decode cX5_toldOfLamp 85 = .ok (.ireturn, 1) := by decide +kernel
theorem dX5_toldOfLamp_86 : decode cX5_toldOfLamp 86 = .ok (.aload_n 0, 1) := by decide +kernel
theorem dX5_toldOfLamp_87 : decode cX5_toldOfLamp 87 = .ok (.getfield 32, 3) := by decide +kernel
theorem dX5_toldOfLamp_90 : decode cX5_toldOfLamp 90 = .ok (.iload_n 3, 1) := by decide +kernel
theorem dX5_toldOfLamp_91 : decode cX5_toldOfLamp 91 = .ok (.iconst 1, 1) := by decide +kernel
theorem dX5_toldOfLamp_92 : decode cX5_toldOfLamp 92 = .ok (.iload_n 1, 1) := by decide +kernel
theorem dX5_toldOfLamp_93 : decode cX5_toldOfLamp 93 = .ok (.ishl, 1) := by decide +kernel
theorem dX5_toldOfLamp_94 : decode cX5_toldOfLamp 94 = .ok (.iconst 1, 1) := by decide +kernel
theorem dX5_toldOfLamp_95 : decode cX5_toldOfLamp 95 = .ok (.iload_n 1, 1) := by decide +kernel
theorem dX5_toldOfLamp_96 : decode cX5_toldOfLamp 96 = .ok (.ishl, 1) := by decide +kernel
theorem dX5_toldOfLamp_97 : decode cX5_toldOfLamp 97 = .ok (.aload_n 0, 1) := by decide +kernel
theorem dX5_toldOfLamp_98 : decode cX5_toldOfLamp 98 = .ok (.getfield 25, 3) := by decide +kernel
theorem dX5_toldOfLamp_101 : decode cX5_toldOfLamp 101 = .ok (.invokevirtual 181, 3) := by decide +kernel
theorem dX5_toldOfLamp_104 : decode cX5_toldOfLamp 104 = .ok (.invokevirtual 223, 3) := by decide +kernel
theorem dX5_toldOfLamp_107 : decode cX5_toldOfLamp 107 = .ok (.iload_n 1, 1) := by decide +kernel
theorem dX5_toldOfLamp_108 : decode cX5_toldOfLamp 108 = .ok (.invokestatic 162, 3) := by decide +kernel
theorem dX5_toldOfLamp_111 : decode cX5_toldOfLamp 111 = .ok (.ireturn, 1) := by decide +kernel
theorem dX5_counted_0 : decode cX5_counted 0 = .ok (.iload_n 1, 1) := by decide +kernel
theorem dX5_counted_1 : decode cX5_counted 1 = .ok (.tableswitch 51 8 10 #[27, 37, 46], 27) := by decide +kernel
theorem dX5_counted_28 : decode cX5_counted 28 = .ok (.aload_n 0, 1) := by decide +kernel
theorem dX5_counted_29 : decode cX5_counted 29 = .ok (.getfield 11, 3) := by decide +kernel
theorem dX5_counted_32 : decode cX5_counted 32 = .ok (.bipush 6, 2) := by decide +kernel
theorem dX5_counted_34 : decode cX5_counted 34 = .ok (.invokestatic 308, 3) := by decide +kernel
theorem dX5_counted_37 : decode cX5_counted 37 = .ok (.ireturn, 1) := by decide +kernel
theorem dX5_counted_38 : decode cX5_counted 38 = .ok (.aload_n 0, 1) := by decide +kernel
theorem dX5_counted_39 : decode cX5_counted 39 = .ok (.getfield 15, 3) := by decide +kernel
theorem dX5_counted_42 : decode cX5_counted 42 = .ok (.iconst 4, 1) := by decide +kernel
theorem dX5_counted_43 : decode cX5_counted 43 = .ok (.invokestatic 308, 3) := by decide +kernel
theorem dX5_counted_46 : decode cX5_counted 46 = .ok (.ireturn, 1) := by decide +kernel
theorem dX5_counted_47 : decode cX5_counted 47 = .ok (.aload_n 0, 1) := by decide +kernel
theorem dX5_counted_48 : decode cX5_counted 48 = .ok (.invokevirtual 312, 3) := by decide +kernel
theorem dX5_counted_51 : decode cX5_counted 51 = .ok (.ireturn, 1) := by decide +kernel
theorem dX5_counted_52 : decode cX5_counted 52 = .ok (.aload_n 0, 1) := by decide +kernel
theorem dX5_counted_53 : decode cX5_counted 53 = .ok (.getfield 25, 3) := by decide +kernel
theorem dX5_counted_56 : decode cX5_counted 56 = .ok (.invokevirtual 187, 3) := by decide +kernel
theorem dX5_counted_59 : decode cX5_counted 59 = .ok (.ifCond .eq 11, 3) := by decide +kernel
theorem dX5_counted_62 : decode cX5_counted 62 = .ok (.aload_n 0, 1) := by decide +kernel
theorem dX5_counted_63 : decode cX5_counted 63 = .ok (.iload_n 1, 1) := by decide +kernel
theorem dX5_counted_64 : decode cX5_counted 64 = .ok (.invokevirtual 315, 3) := by decide +kernel
theorem dX5_counted_67 : decode cX5_counted 67 = .ok (.goto 4, 3) := by decide +kernel
theorem dX5_counted_70 : decode cX5_counted 70 = .ok (.iconst 0, 1) := by decide +kernel
theorem dX5_counted_71 : decode cX5_counted 71 = .ok (.ireturn, 1) := by decide +kernel
theorem dX5_countedOfWall_0 : decode cX5_countedOfWall 0 = .ok (.aload_n 0, 1) := by decide +kernel
theorem dX5_countedOfWall_1 : decode cX5_countedOfWall 1 = .ok (.getfield 25, 3) := by decide +kernel
theorem dX5_countedOfWall_4 : decode cX5_countedOfWall 4 = .ok (.invokevirtual 160, 3) := by decide +kernel
theorem dX5_countedOfWall_7 : decode cX5_countedOfWall 7 = .ok (.istore_n 2, 1) := by decide +kernel
theorem dX5_countedOfWall_8 : decode cX5_countedOfWall 8 = .ok (.iload_n 1, 1) := by decide +kernel
theorem dX5_countedOfWall_9 : decode cX5_countedOfWall 9 = .ok (.tableswitch 95 0 6 #[43, 46, 54, 62, 71, 76, 84], 43) := by decide +kernel
theorem dX5_countedOfWall_52 : decode cX5_countedOfWall 52 = .ok (.bipush 9, 2) := by decide +kernel
theorem dX5_countedOfWall_54 : decode cX5_countedOfWall 54 = .ok (.ireturn, 1) := by decide +kernel
theorem dX5_countedOfWall_55 : decode cX5_countedOfWall 55 = .ok (.aload_n 0, 1) := by decide +kernel
theorem dX5_countedOfWall_56 : decode cX5_countedOfWall 56 = .ok (.getfield 25, 3) := by decide +kernel
theorem dX5_countedOfWall_59 : decode cX5_countedOfWall 59 = .ok (.invokevirtual 181, 3) := by decide +kernel
theorem dX5_countedOfWall_62 : decode cX5_countedOfWall 62 = .ok (.ireturn, 1) := by decide +kernel
theorem dX5_countedOfWall_63 : decode cX5_countedOfWall 63 = .ok (.aload_n 0, 1) := by decide +kernel
theorem dX5_countedOfWall_64 : decode cX5_countedOfWall 64 = .ok (.getfield 25, 3) := by decide +kernel
theorem dX5_countedOfWall_67 : decode cX5_countedOfWall 67 = .ok (.invokevirtual 206, 3) := by decide +kernel
theorem dX5_countedOfWall_70 : decode cX5_countedOfWall 70 = .ok (.ireturn, 1) := by decide +kernel
theorem dX5_countedOfWall_71 : decode cX5_countedOfWall 71 = .ok (.aload_n 0, 1) := by decide +kernel
theorem dX5_countedOfWall_72 : decode cX5_countedOfWall 72 = .ok (.getfield 32, 3) := by decide +kernel
theorem dX5_countedOfWall_75 : decode cX5_countedOfWall 75 = .ok (.iload_n 2, 1) := by decide +kernel
theorem dX5_countedOfWall_76 : decode cX5_countedOfWall 76 = .ok (.invokevirtual 184, 3) := by decide +kernel
theorem dX5_countedOfWall_79 : decode cX5_countedOfWall 79 = .ok (.ireturn, 1) := by decide +kernel
theorem dX5_countedOfWall_80 : decode cX5_countedOfWall 80 = .ok (.iload_n 2, 1) := by decide +kernel
theorem dX5_countedOfWall_81 : decode cX5_countedOfWall 81 = .ok (.invokestatic 203, 3) := by decide +kernel
theorem dX5_countedOfWall_84 : decode cX5_countedOfWall 84 = .ok (.ireturn, 1) := by decide +kernel
theorem dX5_countedOfWall_85 : decode cX5_countedOfWall 85 = .ok (.iload_n 2, 1) := by decide +kernel
theorem dX5_countedOfWall_86 : decode cX5_countedOfWall 86 = .ok (.sipush 511, 3) := by decide +kernel
theorem dX5_countedOfWall_89 : decode cX5_countedOfWall 89 = .ok (.invokestatic 260, 3) := by decide +kernel
theorem dX5_countedOfWall_92 : decode cX5_countedOfWall 92 = .ok (.ireturn, 1) := by decide +kernel
theorem dX5_countedOfWall_93 : decode cX5_countedOfWall 93 = .ok (.aload_n 0, 1) := by decide +kernel
theorem dX5_countedOfWall_94 : decode cX5_countedOfWall 94 = .ok (.getfield 32, 3) := by decide +kernel
theorem dX5_countedOfWall_97 : decode cX5_countedOfWall 97 = .ok (.getfield 318, 3) := by decide +kernel
theorem dX5_countedOfWall_100 : decode cX5_countedOfWall 100 = .ok (.invokestatic 173, 3) := by decide +kernel
theorem dX5_countedOfWall_103 : decode cX5_countedOfWall 103 = .ok (.ireturn, 1) := by decide +kernel
theorem dX5_countedOfWall_104 : decode cX5_countedOfWall 104 = .ok (.aload_n 0, 1) := by decide +kernel
theorem dX5_countedOfWall_105 : decode cX5_countedOfWall 105 = .ok (.getfield 32, 3) := by decide +kernel
theorem dX5_countedOfWall_108 : decode cX5_countedOfWall 108 = .ok (.getfield 321, 3) := by decide +kernel
theorem dX5_countedOfWall_111 : decode cX5_countedOfWall 111 = .ok (.invokestatic 173, 3) := by decide +kernel
theorem dX5_countedOfWall_114 : decode cX5_countedOfWall 114 = .ok (.ireturn, 1) := by decide +kernel
theorem dX5_countRows_0 : decode cX5_countRows 0 = .ok (.iconst 0, 1) := by decide +kernel
theorem dX5_countRows_1 : decode cX5_countRows 1 = .ok (.istore_n 2, 1) := by decide +kernel
theorem dX5_countRows_2 : decode cX5_countRows 2 = .ok (.iconst 0, 1) := by decide +kernel
theorem dX5_countRows_3 : decode cX5_countRows 3 = .ok (.istore_n 3, 1) := by decide +kernel
theorem dX5_countRows_4 : decode cX5_countRows 4 = .ok (.iload_n 3, 1) := by decide +kernel
theorem dX5_countRows_5 : decode cX5_countRows 5 = .ok (.iload_n 1, 1) := by decide +kernel
theorem dX5_countRows_6 : decode cX5_countRows 6 = .ok (.if_icmp .ge 27, 3) := by decide +kernel
theorem dX5_countRows_9 : decode cX5_countRows 9 = .ok (.iload_n 3, 1) := by decide +kernel
theorem dX5_countRows_10 : decode cX5_countRows 10 = .ok (.aload_n 0, 1) := by decide +kernel
theorem dX5_countRows_11 : decode cX5_countRows 11 = .ok (.arraylength, 1) := by decide +kernel
theorem dX5_countRows_12 : decode cX5_countRows 12 = .ok (.if_icmp .ge 21, 3) := by decide +kernel
theorem dX5_countRows_15 : decode cX5_countRows 15 = .ok (.aload_n 0, 1) := by decide +kernel
theorem dX5_countRows_16 : decode cX5_countRows 16 = .ok (.iload_n 3, 1) := by decide +kernel
theorem dX5_countRows_17 : decode cX5_countRows 17 = .ok (.aaload, 1) := by decide +kernel
theorem dX5_countRows_18 : decode cX5_countRows 18 = .ok (.invokevirtual 106, 3) := by decide +kernel
theorem dX5_countRows_21 : decode cX5_countRows 21 = .ok (.ifCond .eq 6, 3) := by decide +kernel
theorem dX5_countRows_24 : decode cX5_countRows 24 = .ok (.iinc 2 1, 3) := by decide +kernel
theorem dX5_countRows_27 : decode cX5_countRows 27 = .ok (.iinc 3 1, 3) := by decide +kernel
theorem dX5_countRows_30 : decode cX5_countRows 30 = .ok (.goto (-26), 3) := by decide +kernel
theorem dX5_countRows_33 : decode cX5_countRows 33 = .ok (.iload_n 2, 1) := by decide +kernel
theorem dX5_countRows_34 : decode cX5_countRows 34 = .ok (.ireturn, 1) := by decide +kernel
theorem dX5_countKept_0 : decode cX5_countKept 0 = .ok (.iconst 0, 1) := by decide +kernel
theorem dX5_countKept_1 : decode cX5_countKept 1 = .ok (.istore_n 1, 1) := by decide +kernel
theorem dX5_countKept_2 : decode cX5_countKept 2 = .ok (.iconst 0, 1) := by decide +kernel
theorem dX5_countKept_3 : decode cX5_countKept 3 = .ok (.istore_n 2, 1) := by decide +kernel
theorem dX5_countKept_4 : decode cX5_countKept 4 = .ok (.iload_n 2, 1) := by decide +kernel
theorem dX5_countKept_5 : decode cX5_countKept 5 = .ok (.iconst 3, 1) := by decide +kernel
theorem dX5_countKept_6 : decode cX5_countKept 6 = .ok (.if_icmp .ge 24, 3) := by decide +kernel
theorem dX5_countKept_9 : decode cX5_countKept 9 = .ok (.aload_n 0, 1) := by decide +kernel
theorem dX5_countKept_10 : decode cX5_countKept 10 = .ok (.getfield 20, 3) := by decide +kernel
theorem dX5_countKept_13 : decode cX5_countKept 13 = .ok (.iload_n 2, 1) := by decide +kernel
theorem dX5_countKept_14 : decode cX5_countKept 14 = .ok (.aaload, 1) := by decide +kernel
theorem dX5_countKept_15 : decode cX5_countKept 15 = .ok (.invokevirtual 187, 3) := by decide +kernel
theorem dX5_countKept_18 : decode cX5_countKept 18 = .ok (.ifCond .eq 6, 3) := by decide +kernel
theorem dX5_countKept_21 : decode cX5_countKept 21 = .ok (.iinc 1 1, 3) := by decide +kernel
theorem dX5_countKept_24 : decode cX5_countKept 24 = .ok (.iinc 2 1, 3) := by decide +kernel
theorem dX5_countKept_27 : decode cX5_countKept 27 = .ok (.goto (-23), 3) := by decide +kernel
theorem dX5_countKept_30 : decode cX5_countKept 30 = .ok (.iload_n 1, 1) := by decide +kernel
theorem dX5_countKept_31 : decode cX5_countKept 31 = .ok (.ireturn, 1) := by decide +kernel
theorem dX5_doPress_0 : decode cX5_doPress 0 = .ok (.aload_n 0, 1) := by decide +kernel
theorem dX5_doPress_1 : decode cX5_doPress 1 = .ok (.getfield 25, 3) := by decide +kernel
theorem dX5_doPress_4 : decode cX5_doPress 4 = .ok (.aload_n 0, 1) := by decide +kernel
theorem dX5_doPress_5 : decode cX5_doPress 5 = .ok (.getfield 32, 3) := by decide +kernel
theorem dX5_doPress_8 : decode cX5_doPress 8 = .ok (.aload_n 0, 1) := by decide +kernel
theorem dX5_doPress_9 : decode cX5_doPress 9 = .ok (.getfield 25, 3) := by decide +kernel
theorem dX5_doPress_12 : decode cX5_doPress 12 = .ok (.invokevirtual 160, 3) := by decide +kernel
theorem dX5_doPress_15 : decode cX5_doPress 15 = .ok (.iload_n 1, 1) := by decide +kernel
theorem dX5_doPress_16 : decode cX5_doPress 16 = .ok (.aload_n 0, 1) := by decide +kernel
theorem dX5_doPress_17 : decode cX5_doPress 17 = .ok (.getfield 25, 3) := by decide +kernel
theorem dX5_doPress_20 : decode cX5_doPress 20 = .ok (.invokevirtual 181, 3) := by decide +kernel
theorem dX5_doPress_23 : decode cX5_doPress 23 = .ok (.invokevirtual 227, 3) := by decide +kernel
theorem dX5_doPress_26 : decode cX5_doPress 26 = .ok (.iconst 1, 1) := by decide +kernel
theorem dX5_doPress_27 : decode cX5_doPress 27 = .ok (.invokevirtual 324, 3) := by decide +kernel
theorem dX5_doPress_30 : decode cX5_doPress 30 = .ok (.return_, 1) := by decide +kernel
theorem dX5_doSet_0 : decode cX5_doSet 0 = .ok (.aload_n 0, 1) := by decide +kernel
theorem dX5_doSet_1 : decode cX5_doSet 1 = .ok (.getfield 25, 3) := by decide +kernel
theorem dX5_doSet_4 : decode cX5_doSet 4 = .ok (.aload_n 0, 1) := by decide +kernel
theorem dX5_doSet_5 : decode cX5_doSet 5 = .ok (.getfield 25, 3) := by decide +kernel
theorem dX5_doSet_8 : decode cX5_doSet 8 = .ok (.invokevirtual 160, 3) := by decide +kernel
theorem dX5_doSet_11 : decode cX5_doSet 11 = .ok (.iload_n 1, 1) := by decide +kernel
theorem dX5_doSet_12 : decode cX5_doSet 12 = .ok (.iload_n 2, 1) := by decide +kernel
theorem dX5_doSet_13 : decode cX5_doSet 13 = .ok (.invokestatic 219, 3) := by decide +kernel
theorem dX5_doSet_16 : decode cX5_doSet 16 = .ok (.iconst 0, 1) := by decide +kernel
theorem dX5_doSet_17 : decode cX5_doSet 17 = .ok (.invokevirtual 324, 3) := by decide +kernel
theorem dX5_doSet_20 : decode cX5_doSet 20 = .ok (.return_, 1) := by decide +kernel
theorem dX5_doCrack_0 : decode cX5_doCrack 0 = .ok (.aload_n 0, 1) := by decide +kernel
theorem dX5_doCrack_1 : decode cX5_doCrack 1 = .ok (.getfield 25, 3) := by decide +kernel
theorem dX5_doCrack_4 : decode cX5_doCrack 4 = .ok (.aload_n 0, 1) := by decide +kernel
theorem dX5_doCrack_5 : decode cX5_doCrack 5 = .ok (.getfield 25, 3) := by decide +kernel
theorem dX5_doCrack_8 : decode cX5_doCrack 8 = .ok (.invokevirtual 160, 3) := by decide +kernel
theorem dX5_doCrack_11 : decode cX5_doCrack 11 = .ok (.aload_n 0, 1) := by decide +kernel
theorem dX5_doCrack_12 : decode cX5_doCrack 12 = .ok (.getfield 25, 3) := by decide +kernel
theorem dX5_doCrack_15 : decode cX5_doCrack 15 = .ok (.invokevirtual 160, 3) := by decide +kernel
theorem dX5_doCrack_18 : decode cX5_doCrack 18 = .ok (.invokestatic 203, 3) := by decide +kernel
theorem dX5_doCrack_21 : decode cX5_doCrack 21 = .ok (.iconst 1, 1) := by decide +kernel
theorem dX5_doCrack_22 : decode cX5_doCrack 22 = .ok (.iload_n 1, 1) := by decide +kernel
theorem dX5_doCrack_23 : decode cX5_doCrack 23 = .ok (.ishl, 1) := by decide +kernel
theorem dX5_doCrack_24 : decode cX5_doCrack 24 = .ok (.ixor, 1) := by decide +kernel
theorem dX5_doCrack_25 : decode cX5_doCrack 25 = .ok (.invokestatic 327, 3) := by decide +kernel
theorem dX5_doCrack_28 : decode cX5_doCrack 28 = .ok (.iconst 0, 1) := by decide +kernel
theorem dX5_doCrack_29 : decode cX5_doCrack 29 = .ok (.invokevirtual 324, 3) := by decide +kernel
theorem dX5_doCrack_32 : decode cX5_doCrack 32 = .ok (.return_, 1) := by decide +kernel
theorem dX5_doByLot_0 : decode cX5_doByLot 0 = .ok (.iload_n 2, 1) := by decide +kernel
theorem dX5_doByLot_1 : decode cX5_doByLot 1 = .ok (.bipush 6, 2) := by decide +kernel
theorem dX5_doByLot_3 : decode cX5_doByLot 3 = .ok (.if_icmp .ge 11, 3) := by decide +kernel
theorem dX5_doByLot_6 : decode cX5_doByLot 6 = .ok (.aload_n 0, 1) := by decide +kernel
theorem dX5_doByLot_7 : decode cX5_doByLot 7 = .ok (.iload_n 1, 1) := by decide +kernel
theorem dX5_doByLot_8 : decode cX5_doByLot 8 = .ok (.invokevirtual 191, 3) := by decide +kernel
theorem dX5_doByLot_11 : decode cX5_doByLot 11 = .ok (.goto 52, 3) := by decide +kernel
theorem dX5_doByLot_14 : decode cX5_doByLot 14 = .ok (.iload_n 2, 1) := by decide +kernel
theorem dX5_doByLot_15 : decode cX5_doByLot 15 = .ok (.bipush 6, 2) := by decide +kernel
theorem dX5_doByLot_17 : decode cX5_doByLot 17 = .ok (.if_icmp .ne 41, 3) := by decide +kernel
theorem dX5_doByLot_20 : decode cX5_doByLot 20 = .ok (.aload_n 0, 1) := by decide +kernel
theorem dX5_doByLot_21 : decode cX5_doByLot 21 = .ok (.getfield 25, 3) := by decide +kernel
theorem dX5_doByLot_24 : decode cX5_doByLot 24 = .ok (.invokevirtual 160, 3) := by decide +kernel
theorem dX5_doByLot_27 : decode cX5_doByLot 27 = .ok (.iload_n 1, 1) := by decide +kernel
theorem dX5_doByLot_28 : decode cX5_doByLot 28 = .ok (.invokestatic 162, 3) := by decide +kernel
theorem dX5_doByLot_31 : decode cX5_doByLot 31 = .ok (.istore_n 3, 1) := by decide +kernel
theorem dX5_doByLot_32 : decode cX5_doByLot 32 = .ok (.aload_n 0, 1) := by decide +kernel
theorem dX5_doByLot_33 : decode cX5_doByLot 33 = .ok (.iload_n 1, 1) := by decide +kernel
theorem dX5_doByLot_34 : decode cX5_doByLot 34 = .ok (.aload_n 0, 1) := by decide +kernel
theorem dX5_doByLot_35 : decode cX5_doByLot 35 = .ok (.iload_n 1, 1) := by decide +kernel
theorem dX5_doByLot_36 : decode cX5_doByLot 36 = .ok (.iload_n 3, 1) := by decide +kernel
theorem dX5_doByLot_37 : decode cX5_doByLot 37 = .ok (.iconst 1, 1) := by decide +kernel
theorem dX5_doByLot_38 : decode cX5_doByLot 38 = .ok (.iadd, 1) := by decide +kernel
theorem dX5_doByLot_39 : decode cX5_doByLot 39 = .ok (.invokevirtual 194, 3) := by decide +kernel
theorem dX5_doByLot_42 : decode cX5_doByLot 42 = .ok (.ifCond .eq 9, 3) := by decide +kernel
theorem dX5_doByLot_45 : decode cX5_doByLot 45 = .ok (.iload_n 3, 1) := by decide +kernel
theorem dX5_doByLot_46 : decode cX5_doByLot 46 = .ok (.iconst 1, 1) := by decide +kernel
theorem dX5_doByLot_47 : decode cX5_doByLot 47 = .ok (.iadd, 1) := by decide +kernel
theorem dX5_doByLot_48 : decode cX5_doByLot 48 = .ok (.goto 4, 3) := by decide +kernel
theorem dX5_doByLot_51 : decode cX5_doByLot 51 = .ok (.iconst 0, 1) := by decide +kernel
theorem dX5_doByLot_52 : decode cX5_doByLot 52 = .ok (.invokevirtual 197, 3) := by decide +kernel
theorem dX5_doByLot_55 : decode cX5_doByLot 55 = .ok (.goto 8, 3) := by decide +kernel
theorem dX5_doByLot_58 : decode cX5_doByLot 58 = .ok (.aload_n 0, 1) := by decide +kernel
theorem dX5_doByLot_59 : decode cX5_doByLot 59 = .ok (.iload_n 1, 1) := by decide +kernel
theorem dX5_doByLot_60 : decode cX5_doByLot 60 = .ok (.invokevirtual 200, 3) := by decide +kernel
theorem dX5_doByLot_63 : decode cX5_doByLot 63 = .ok (.return_, 1) := by decide +kernel
theorem dX5_showingBehind_0 : decode cX5_showingBehind 0 = .ok (.aload_n 0, 1) := by decide +kernel
theorem dX5_showingBehind_1 : decode cX5_showingBehind 1 = .ok (.getfield 32, 3) := by decide +kernel
theorem dX5_showingBehind_4 : decode cX5_showingBehind 4 = .ok (.aload_n 0, 1) := by decide +kernel
theorem dX5_showingBehind_5 : decode cX5_showingBehind 5 = .ok (.getfield 32, 3) := by decide +kernel
theorem dX5_showingBehind_8 : decode cX5_showingBehind 8 = .ok (.aload_n 0, 1) := by decide +kernel
theorem dX5_showingBehind_9 : decode cX5_showingBehind 9 = .ok (.getfield 25, 3) := by decide +kernel
theorem dX5_showingBehind_12 : decode cX5_showingBehind 12 = .ok (.invokevirtual 160, 3) := by decide +kernel
theorem dX5_showingBehind_15 : decode cX5_showingBehind 15 = .ok (.iload_n 1, 1) := by decide +kernel
theorem dX5_showingBehind_16 : decode cX5_showingBehind 16 = .ok (.aload_n 0, 1) := by decide +kernel
theorem dX5_showingBehind_17 : decode cX5_showingBehind 17 = .ok (.getfield 25, 3) := by decide +kernel
theorem dX5_showingBehind_20 : decode cX5_showingBehind 20 = .ok (.invokevirtual 181, 3) := by decide +kernel
theorem dX5_showingBehind_23 : decode cX5_showingBehind 23 = .ok (.invokevirtual 227, 3) := by decide +kernel
theorem dX5_showingBehind_26 : decode cX5_showingBehind 26 = .ok (.invokevirtual 184, 3) := by decide +kernel
theorem dX5_showingBehind_29 : decode cX5_showingBehind 29 = .ok (.ireturn, 1) := by decide +kernel
theorem dX5_reaches_0 : decode cX5_reaches 0 = .ok (.iload 4, 2) := by decide +kernel
theorem dX5_reaches_2 : decode cX5_reaches 2 = .ok (.iload 5, 2) := by decide +kernel
theorem dX5_reaches_4 : decode cX5_reaches 4 = .ok (.if_icmp .ge 10, 3) := by decide +kernel
theorem dX5_reaches_7 : decode cX5_reaches 7 = .ok (.iload 4, 2) := by decide +kernel
theorem dX5_reaches_9 : decode cX5_reaches 9 = .ok (.aload_n 3, 1) := by decide +kernel
theorem dX5_reaches_10 : decode cX5_reaches 10 = .ok (.arraylength, 1) := by decide +kernel
theorem dX5_reaches_11 : decode cX5_reaches 11 = .ok (.if_icmp .lt 19, 3) := by decide +kernel
theorem dX5_reaches_14 : decode cX5_reaches 14 = .ok (.aload_n 0, 1) := by decide +kernel
theorem dX5_reaches_15 : decode cX5_reaches 15 = .ok (.iload_n 1, 1) := by decide +kernel
theorem dX5_reaches_16 : decode cX5_reaches 16 = .ok (.invokevirtual 184, 3) := by decide +kernel
theorem dX5_reaches_19 : decode cX5_reaches 19 = .ok (.iload 6, 2) := by decide +kernel
theorem dX5_reaches_21 : decode cX5_reaches 21 = .ok (.if_icmp .ne 7, 3) := by decide +kernel
theorem dX5_reaches_24 : decode cX5_reaches 24 = .ok (.iconst 1, 1) := by decide +kernel
theorem dX5_reaches_25 : decode cX5_reaches 25 = .ok (.goto 4, 3) := by decide +kernel
theorem dX5_reaches_28 : decode cX5_reaches 28 = .ok (.iconst 0, 1) := by decide +kernel
theorem dX5_reaches_29 : decode cX5_reaches 29 = .ok (.ireturn, 1) := by decide +kernel
theorem dX5_reaches_30 : decode cX5_reaches 30 = .ok (.iconst 0, 1) := by decide +kernel
theorem dX5_reaches_31 : decode cX5_reaches 31 = .ok (.istore 7, 2) := by decide +kernel
theorem dX5_reaches_33 : decode cX5_reaches 33 = .ok (.iload 7, 2) := by decide +kernel
theorem dX5_reaches_35 : decode cX5_reaches 35 = .ok (.bipush 9, 2) := by decide +kernel
theorem dX5_reaches_37 : decode cX5_reaches 37 = .ok (.if_icmp .ge 48, 3) := by decide +kernel
theorem dX5_reaches_40 : decode cX5_reaches 40 = .ok (.aload_n 3, 1) := by decide +kernel
theorem dX5_reaches_41 : decode cX5_reaches 41 = .ok (.iload 4, 2) := by decide +kernel
theorem dX5_reaches_43 : decode cX5_reaches 43 = .ok (.iload 7, 2) := by decide +kernel
theorem dX5_reaches_45 : decode cX5_reaches 45 = .ok (.iastore, 1) := by decide +kernel
theorem dX5_reaches_46 : decode cX5_reaches 46 = .ok (.aload_n 0, 1) := by decide +kernel
theorem dX5_reaches_47 : decode cX5_reaches 47 = .ok (.iload_n 1, 1) := by decide +kernel
theorem dX5_reaches_48 : decode cX5_reaches 48 = .ok (.iload 7, 2) := by decide +kernel
theorem dX5_reaches_50 : decode cX5_reaches 50 = .ok (.iload_n 2, 1) := by decide +kernel
theorem dX5_reaches_51 : decode cX5_reaches 51 = .ok (.invokevirtual 227, 3) := by decide +kernel
theorem dX5_reaches_54 : decode cX5_reaches 54 = .ok (.istore 8, 2) := by decide +kernel
theorem dX5_reaches_56 : decode cX5_reaches 56 = .ok (.aload_n 0, 1) := by decide +kernel
theorem dX5_reaches_57 : decode cX5_reaches 57 = .ok (.iload 8, 2) := by decide +kernel
theorem dX5_reaches_59 : decode cX5_reaches 59 = .ok (.iload_n 2, 1) := by decide +kernel
theorem dX5_reaches_60 : decode cX5_reaches 60 = .ok (.iconst 1, 1) := by decide +kernel
theorem dX5_reaches_61 : decode cX5_reaches 61 = .ok (.iadd, 1) := by decide +kernel
theorem dX5_reaches_62 : decode cX5_reaches 62 = .ok (.aload_n 3, 1) := by decide +kernel
theorem dX5_reaches_63 : decode cX5_reaches 63 = .ok (.iload 4, 2) := by decide +kernel
theorem dX5_reaches_65 : decode cX5_reaches 65 = .ok (.iconst 1, 1) := by decide +kernel
theorem dX5_reaches_66 : decode cX5_reaches 66 = .ok (.iadd, 1) := by decide +kernel
theorem dX5_reaches_67 : decode cX5_reaches 67 = .ok (.iload 5, 2) := by decide +kernel
theorem dX5_reaches_69 : decode cX5_reaches 69 = .ok (.iload 6, 2) := by decide +kernel
theorem dX5_reaches_71 : decode cX5_reaches 71 = .ok (.invokestatic 236, 3) := by decide +kernel
theorem dX5_reaches_74 : decode cX5_reaches 74 = .ok (.ifCond .eq 5, 3) := by decide +kernel
theorem dX5_reaches_77 : decode cX5_reaches 77 = .ok (.iconst 1, 1) := by decide +kernel
theorem dX5_reaches_78 : decode cX5_reaches 78 = .ok (.ireturn, 1) := by decide +kernel
theorem dX5_reaches_79 : decode cX5_reaches 79 = .ok (.iinc 7 1, 3) := by decide +kernel
theorem dX5_reaches_82 : decode cX5_reaches 82 = .ok (.goto (-49), 3) := by decide +kernel
theorem dX5_reaches_85 : decode cX5_reaches 85 = .ok (.iconst 0, 1) := by decide +kernel
theorem dX5_reaches_86 : decode cX5_reaches 86 = .ok (.ireturn, 1) := by decide +kernel
theorem dX5_fillBehindSets_0 : decode cX5_fillBehindSets 0 = .ok (.aload_n 0, 1) := by decide +kernel
theorem dX5_fillBehindSets_1 : decode cX5_fillBehindSets 1 = .ok (.getfield 46, 3) := by decide +kernel
theorem dX5_fillBehindSets_4 : decode cX5_fillBehindSets 4 = .ok (.iconst 0, 1) := by decide +kernel
theorem dX5_fillBehindSets_5 : decode cX5_fillBehindSets 5 = .ok (.aload_n 0, 1) := by decide +kernel
theorem dX5_fillBehindSets_6 : decode cX5_fillBehindSets 6 = .ok (.getfield 25, 3) := by decide +kernel
theorem dX5_fillBehindSets_9 : decode cX5_fillBehindSets 9 = .ok (.invokevirtual 160, 3) := by decide +kernel
theorem dX5_fillBehindSets_12 : decode cX5_fillBehindSets 12 = .ok (.iastore, 1) := by decide +kernel
theorem dX5_fillBehindSets_13 : decode cX5_fillBehindSets 13 = .ok (.iconst 0, 1) := by decide +kernel
theorem dX5_fillBehindSets_14 : decode cX5_fillBehindSets 14 = .ok (.istore_n 1, 1) := by decide +kernel
theorem dX5_fillBehindSets_15 : decode cX5_fillBehindSets 15 = .ok (.iload_n 1, 1) := by decide +kernel
theorem dX5_fillBehindSets_16 : decode cX5_fillBehindSets 16 = .ok (.bipush 9, 2) := by decide +kernel
theorem dX5_fillBehindSets_18 : decode cX5_fillBehindSets 18 = .ok (.if_icmp .ge 64, 3) := by decide +kernel
theorem dX5_fillBehindSets_21 : decode cX5_fillBehindSets 21 = .ok (.iconst 1, 1) := by decide +kernel
theorem dX5_fillBehindSets_22 : decode cX5_fillBehindSets 22 = .ok (.iload_n 1, 1) := by decide +kernel
theorem dX5_fillBehindSets_23 : decode cX5_fillBehindSets 23 = .ok (.ishl, 1) := by decide +kernel
theorem dX5_fillBehindSets_24 : decode cX5_fillBehindSets 24 = .ok (.istore_n 2, 1) := by decide +kernel
theorem dX5_fillBehindSets_25 : decode cX5_fillBehindSets 25 = .ok (.iconst 0, 1) := by decide +kernel
theorem dX5_fillBehindSets_26 : decode cX5_fillBehindSets 26 = .ok (.istore_n 3, 1) := by decide +kernel
theorem dX5_fillBehindSets_27 : decode cX5_fillBehindSets 27 = .ok (.iload_n 3, 1) := by decide +kernel
theorem dX5_fillBehindSets_28 : decode cX5_fillBehindSets 28 = .ok (.iload_n 2, 1) := by decide +kernel
theorem dX5_fillBehindSets_29 : decode cX5_fillBehindSets 29 = .ok (.if_icmp .ge 47, 3) := by decide +kernel
theorem dX5_fillBehindSets_32 : decode cX5_fillBehindSets 32 = .ok (.aload_n 0, 1) := by decide +kernel
theorem dX5_fillBehindSets_33 : decode cX5_fillBehindSets 33 = .ok (.getfield 25, 3) := by decide +kernel
theorem dX5_fillBehindSets_36 : decode cX5_fillBehindSets 36 = .ok (.invokevirtual 181, 3) := by decide +kernel
theorem dX5_fillBehindSets_39 : decode cX5_fillBehindSets 39 = .ok (.iload_n 3, 1) := by decide +kernel
theorem dX5_fillBehindSets_40 : decode cX5_fillBehindSets 40 = .ok (.invokestatic 173, 3) := by decide +kernel
theorem dX5_fillBehindSets_43 : decode cX5_fillBehindSets 43 = .ok (.iadd, 1) := by decide +kernel
theorem dX5_fillBehindSets_44 : decode cX5_fillBehindSets 44 = .ok (.istore 4, 2) := by decide +kernel
theorem dX5_fillBehindSets_46 : decode cX5_fillBehindSets 46 = .ok (.aload_n 0, 1) := by decide +kernel
theorem dX5_fillBehindSets_47 : decode cX5_fillBehindSets 47 = .ok (.getfield 46, 3) := by decide +kernel
theorem dX5_fillBehindSets_50 : decode cX5_fillBehindSets 50 = .ok (.iload_n 2, 1) := by decide +kernel
theorem dX5_fillBehindSets_51 : decode cX5_fillBehindSets 51 = .ok (.iload_n 3, 1) := by decide +kernel
theorem dX5_fillBehindSets_52 : decode cX5_fillBehindSets 52 = .ok (.ior, 1) := by decide +kernel
theorem dX5_fillBehindSets_53 : decode cX5_fillBehindSets 53 = .ok (.aload_n 0, 1) := by decide +kernel
theorem dX5_fillBehindSets_54 : decode cX5_fillBehindSets 54 = .ok (.getfield 32, 3) := by decide +kernel
theorem dX5_fillBehindSets_57 : decode cX5_fillBehindSets 57 = .ok (.aload_n 0, 1) := by decide +kernel
theorem dX5_fillBehindSets_58 : decode cX5_fillBehindSets 58 = .ok (.getfield 46, 3) := by decide +kernel
theorem dX5_fillBehindSets_61 : decode cX5_fillBehindSets 61 = .ok (.iload_n 3, 1) := by decide +kernel
theorem dX5_fillBehindSets_62 : decode cX5_fillBehindSets 62 = .ok (.iaload, 1) := by decide +kernel
theorem dX5_fillBehindSets_63 : decode cX5_fillBehindSets 63 = .ok (.iload_n 1, 1) := by decide +kernel
theorem dX5_fillBehindSets_64 : decode cX5_fillBehindSets 64 = .ok (.iload 4, 2) := by decide +kernel
theorem dX5_fillBehindSets_66 : decode cX5_fillBehindSets 66 = .ok (.invokevirtual 227, 3) := by decide +kernel
theorem dX5_fillBehindSets_69 : decode cX5_fillBehindSets 69 = .ok (.iastore, 1) := by decide +kernel
theorem dX5_fillBehindSets_70 : decode cX5_fillBehindSets 70 = .ok (.iinc 3 1, 3) := by decide +kernel
theorem dX5_fillBehindSets_73 : decode cX5_fillBehindSets 73 = .ok (.goto (-46), 3) := by decide +kernel
theorem dX5_fillBehindSets_76 : decode cX5_fillBehindSets 76 = .ok (.iinc 1 1, 3) := by decide +kernel
theorem dX5_fillBehindSets_79 : decode cX5_fillBehindSets 79 = .ok (.goto (-64), 3) := by decide +kernel
theorem dX5_fillBehindSets_82 : decode cX5_fillBehindSets 82 = .ok (.return_, 1) := by decide +kernel
theorem dX5_kindsBy_0 : decode cX5_kindsBy 0 = .ok (.iconst 0, 1) := by decide +kernel
theorem dX5_kindsBy_1 : decode cX5_kindsBy 1 = .ok (.istore_n 3, 1) := by decide +kernel
theorem dX5_kindsBy_2 : decode cX5_kindsBy 2 = .ok (.aload_n 0, 1) := by decide +kernel
theorem dX5_kindsBy_3 : decode cX5_kindsBy 3 = .ok (.getfield 25, 3) := by decide +kernel
theorem dX5_kindsBy_6 : decode cX5_kindsBy 6 = .ok (.invokevirtual 160, 3) := by decide +kernel
theorem dX5_kindsBy_9 : decode cX5_kindsBy 9 = .ok (.iload_n 1, 1) := by decide +kernel
theorem dX5_kindsBy_10 : decode cX5_kindsBy 10 = .ok (.invokestatic 162, 3) := by decide +kernel
theorem dX5_kindsBy_13 : decode cX5_kindsBy 13 = .ok (.istore 4, 2) := by decide +kernel
theorem dX5_kindsBy_15 : decode cX5_kindsBy 15 = .ok (.iconst 0, 1) := by decide +kernel
theorem dX5_kindsBy_16 : decode cX5_kindsBy 16 = .ok (.istore 5, 2) := by decide +kernel
theorem dX5_kindsBy_18 : decode cX5_kindsBy 18 = .ok (.iload 5, 2) := by decide +kernel
theorem dX5_kindsBy_20 : decode cX5_kindsBy 20 = .ok (.bipush 6, 2) := by decide +kernel
theorem dX5_kindsBy_22 : decode cX5_kindsBy 22 = .ok (.if_icmp .ge 37, 3) := by decide +kernel
theorem dX5_kindsBy_25 : decode cX5_kindsBy 25 = .ok (.iload 4, 2) := by decide +kernel
theorem dX5_kindsBy_27 : decode cX5_kindsBy 27 = .ok (.iload 5, 2) := by decide +kernel
theorem dX5_kindsBy_29 : decode cX5_kindsBy 29 = .ok (.invokestatic 298, 3) := by decide +kernel
theorem dX5_kindsBy_32 : decode cX5_kindsBy 32 = .ok (.if_icmp .gt 21, 3) := by decide +kernel
theorem dX5_kindsBy_35 : decode cX5_kindsBy 35 = .ok (.aload_n 0, 1) := by decide +kernel
theorem dX5_kindsBy_36 : decode cX5_kindsBy 36 = .ok (.iload_n 1, 1) := by decide +kernel
theorem dX5_kindsBy_37 : decode cX5_kindsBy 37 = .ok (.iload 5, 2) := by decide +kernel
theorem dX5_kindsBy_39 : decode cX5_kindsBy 39 = .ok (.aload_n 2, 1) := by decide +kernel
theorem dX5_kindsBy_40 : decode cX5_kindsBy 40 = .ok (.invokevirtual 330, 3) := by decide +kernel
theorem dX5_kindsBy_43 : decode cX5_kindsBy 43 = .ok (.ifCond .eq 10, 3) := by decide +kernel
theorem dX5_kindsBy_46 : decode cX5_kindsBy 46 = .ok (.iload_n 3, 1) := by decide +kernel
theorem dX5_kindsBy_47 : decode cX5_kindsBy 47 = .ok (.iconst 1, 1) := by decide +kernel
theorem dX5_kindsBy_48 : decode cX5_kindsBy 48 = .ok (.iload 5, 2) := by decide +kernel
theorem dX5_kindsBy_50 : decode cX5_kindsBy 50 = .ok (.ishl, 1) := by decide +kernel
theorem dX5_kindsBy_51 : decode cX5_kindsBy 51 = .ok (.ior, 1) := by decide +kernel
theorem dX5_kindsBy_52 : decode cX5_kindsBy 52 = .ok (.istore_n 3, 1) := by decide +kernel
theorem dX5_kindsBy_53 : decode cX5_kindsBy 53 = .ok (.iinc 5 1, 3) := by decide +kernel
theorem dX5_kindsBy_56 : decode cX5_kindsBy 56 = .ok (.goto (-38), 3) := by decide +kernel
theorem dX5_kindsBy_59 : decode cX5_kindsBy 59 = .ok (.iload_n 3, 1) := by decide +kernel
theorem dX5_kindsBy_60 : decode cX5_kindsBy 60 = .ok (.ireturn, 1) := by decide +kernel
theorem dX5_fits_0 : decode cX5_fits 0 = .ok (.iconst 0, 1) := by decide +kernel
theorem dX5_fits_1 : decode cX5_fits 1 = .ok (.istore 4, 2) := by decide +kernel
theorem dX5_fits_3 : decode cX5_fits 3 = .ok (.iload 4, 2) := by decide +kernel
theorem dX5_fits_5 : decode cX5_fits 5 = .ok (.aload_n 3, 1) := by decide +kernel
theorem dX5_fits_6 : decode cX5_fits 6 = .ok (.invokevirtual 118, 3) := by decide +kernel
theorem dX5_fits_9 : decode cX5_fits 9 = .ok (.if_icmp .ge 34, 3) := by decide +kernel
theorem dX5_fits_12 : decode cX5_fits 12 = .ok (.aload_n 0, 1) := by decide +kernel
theorem dX5_fits_13 : decode cX5_fits 13 = .ok (.iload_n 1, 1) := by decide +kernel
theorem dX5_fits_14 : decode cX5_fits 14 = .ok (.iload_n 2, 1) := by decide +kernel
theorem dX5_fits_15 : decode cX5_fits 15 = .ok (.aload_n 3, 1) := by decide +kernel
theorem dX5_fits_16 : decode cX5_fits 16 = .ok (.iload 4, 2) := by decide +kernel
theorem dX5_fits_18 : decode cX5_fits 18 = .ok (.invokevirtual 85, 3) := by decide +kernel
theorem dX5_fits_21 : decode cX5_fits 21 = .ok (.invokevirtual 334, 3) := by decide +kernel
theorem dX5_fits_24 : decode cX5_fits 24 = .ok (.aload_n 3, 1) := by decide +kernel
theorem dX5_fits_25 : decode cX5_fits 25 = .ok (.iload 4, 2) := by decide +kernel
theorem dX5_fits_27 : decode cX5_fits 27 = .ok (.iconst 1, 1) := by decide +kernel
theorem dX5_fits_28 : decode cX5_fits 28 = .ok (.iadd, 1) := by decide +kernel
theorem dX5_fits_29 : decode cX5_fits 29 = .ok (.invokevirtual 85, 3) := by decide +kernel
theorem dX5_fits_32 : decode cX5_fits 32 = .ok (.if_icmp .eq 5, 3) := by decide +kernel
theorem dX5_fits_35 : decode cX5_fits 35 = .ok (.iconst 0, 1) := by decide +kernel
theorem dX5_fits_36 : decode cX5_fits 36 = .ok (.ireturn, 1) := by decide +kernel
theorem dX5_fits_37 : decode cX5_fits 37 = .ok (.iinc 4 2, 3) := by decide +kernel
theorem dX5_fits_40 : decode cX5_fits 40 = .ok (.goto (-37), 3) := by decide +kernel
theorem dX5_fits_43 : decode cX5_fits 43 = .ok (.iconst 1, 1) := by decide +kernel
theorem dX5_fits_44 : decode cX5_fits 44 = .ok (.ireturn, 1) := by decide +kernel
theorem dX5_shownAs_0 : decode cX5_shownAs 0 = .ok (.aload_n 0, 1) := by decide +kernel
theorem dX5_shownAs_1 : decode cX5_shownAs 1 = .ok (.getfield 36, 3) := by decide +kernel
theorem dX5_shownAs_4 : decode cX5_shownAs 4 = .ok (.aload_n 0, 1) := by decide +kernel
theorem dX5_shownAs_5 : decode cX5_shownAs 5 = .ok (.getfield 32, 3) := by decide +kernel
theorem dX5_shownAs_8 : decode cX5_shownAs 8 = .ok (.invokevirtual 133, 3) := by decide +kernel
theorem dX5_shownAs_11 : decode cX5_shownAs 11 = .ok (.aload_n 0, 1) := by decide +kernel
theorem dX5_shownAs_12 : decode cX5_shownAs 12 = .ok (.getfield 36, 3) := by decide +kernel
theorem dX5_shownAs_15 : decode cX5_shownAs 15 = .ok (.iload_n 1, 1) := by decide +kernel
theorem dX5_shownAs_16 : decode cX5_shownAs 16 = .ok (.iload_n 2, 1) := by decide +kernel
theorem dX5_shownAs_17 : decode cX5_shownAs 17 = .ok (.invokevirtual 337, 3) := by decide +kernel
theorem dX5_shownAs_20 : decode cX5_shownAs 20 = .ok (.aload_n 0, 1) := by decide +kernel
theorem dX5_shownAs_21 : decode cX5_shownAs 21 = .ok (.getfield 36, 3) := by decide +kernel
theorem dX5_shownAs_24 : decode cX5_shownAs 24 = .ok (.aload_n 0, 1) := by decide +kernel
theorem dX5_shownAs_25 : decode cX5_shownAs 25 = .ok (.getfield 36, 3) := by decide +kernel
theorem dX5_shownAs_28 : decode cX5_shownAs 28 = .ok (.aload_n 0, 1) := by decide +kernel
theorem dX5_shownAs_29 : decode cX5_shownAs 29 = .ok (.getfield 25, 3) := by decide +kernel
theorem dX5_shownAs_32 : decode cX5_shownAs 32 = .ok (.invokevirtual 160, 3) := by decide +kernel
theorem dX5_shownAs_35 : decode cX5_shownAs 35 = .ok (.iload_n 3, 1) := by decide +kernel
theorem dX5_shownAs_36 : decode cX5_shownAs 36 = .ok (.aload_n 0, 1) := by decide +kernel
theorem dX5_shownAs_37 : decode cX5_shownAs 37 = .ok (.getfield 25, 3) := by decide +kernel
theorem dX5_shownAs_40 : decode cX5_shownAs 40 = .ok (.invokevirtual 181, 3) := by decide +kernel
theorem dX5_shownAs_43 : decode cX5_shownAs 43 = .ok (.invokevirtual 227, 3) := by decide +kernel
theorem dX5_shownAs_46 : decode cX5_shownAs 46 = .ok (.invokevirtual 184, 3) := by decide +kernel
theorem dX5_shownAs_49 : decode cX5_shownAs 49 = .ok (.iload_n 1, 1) := by decide +kernel
theorem dX5_shownAs_50 : decode cX5_shownAs 50 = .ok (.ishr, 1) := by decide +kernel
theorem dX5_shownAs_51 : decode cX5_shownAs 51 = .ok (.iconst 1, 1) := by decide +kernel
theorem dX5_shownAs_52 : decode cX5_shownAs 52 = .ok (.iand, 1) := by decide +kernel
theorem dX5_shownAs_53 : decode cX5_shownAs 53 = .ok (.ireturn, 1) := by decide +kernel
theorem dX5_greatestPart_0 : decode cX5_greatestPart 0 = .ok (.iconst 0, 1) := by decide +kernel
theorem dX5_greatestPart_1 : decode cX5_greatestPart 1 = .ok (.istore 4, 2) := by decide +kernel
theorem dX5_greatestPart_3 : decode cX5_greatestPart 3 = .ok (.iconst 0, 1) := by decide +kernel
theorem dX5_greatestPart_4 : decode cX5_greatestPart 4 = .ok (.istore 5, 2) := by decide +kernel
theorem dX5_greatestPart_6 : decode cX5_greatestPart 6 = .ok (.iload 5, 2) := by decide +kernel
theorem dX5_greatestPart_8 : decode cX5_greatestPart 8 = .ok (.bipush 6, 2) := by decide +kernel
theorem dX5_greatestPart_10 : decode cX5_greatestPart 10 = .ok (.if_icmp .ge 31, 3) := by decide +kernel
theorem dX5_greatestPart_13 : decode cX5_greatestPart 13 = .ok (.iload_n 2, 1) := by decide +kernel
theorem dX5_greatestPart_14 : decode cX5_greatestPart 14 = .ok (.iload 5, 2) := by decide +kernel
theorem dX5_greatestPart_16 : decode cX5_greatestPart 16 = .ok (.ishr, 1) := by decide +kernel
theorem dX5_greatestPart_17 : decode cX5_greatestPart 17 = .ok (.iconst 1, 1) := by decide +kernel
theorem dX5_greatestPart_18 : decode cX5_greatestPart 18 = .ok (.iand, 1) := by decide +kernel
theorem dX5_greatestPart_19 : decode cX5_greatestPart 19 = .ok (.ifCond .eq 16, 3) := by decide +kernel
theorem dX5_greatestPart_22 : decode cX5_greatestPart 22 = .ok (.iload 4, 2) := by decide +kernel
theorem dX5_greatestPart_24 : decode cX5_greatestPart 24 = .ok (.aload_n 0, 1) := by decide +kernel
theorem dX5_greatestPart_25 : decode cX5_greatestPart 25 = .ok (.iload_n 1, 1) := by decide +kernel
theorem dX5_greatestPart_26 : decode cX5_greatestPart 26 = .ok (.iload 5, 2) := by decide +kernel
theorem dX5_greatestPart_28 : decode cX5_greatestPart 28 = .ok (.iload_n 3, 1) := by decide +kernel
theorem dX5_greatestPart_29 : decode cX5_greatestPart 29 = .ok (.invokevirtual 334, 3) := by decide +kernel
theorem dX5_greatestPart_32 : decode cX5_greatestPart 32 = .ok (.iadd, 1) := by decide +kernel
theorem dX5_greatestPart_33 : decode cX5_greatestPart 33 = .ok (.istore 4, 2) := by decide +kernel
theorem dX5_greatestPart_35 : decode cX5_greatestPart 35 = .ok (.iinc 5 1, 3) := by decide +kernel
theorem dX5_greatestPart_38 : decode cX5_greatestPart 38 = .ok (.goto (-32), 3) := by decide +kernel
theorem dX5_greatestPart_41 : decode cX5_greatestPart 41 = .ok (.iload 4, 2) := by decide +kernel
theorem dX5_greatestPart_43 : decode cX5_greatestPart 43 = .ok (.iload_n 2, 1) := by decide +kernel
theorem dX5_greatestPart_44 : decode cX5_greatestPart 44 = .ok (.invokestatic 173, 3) := by decide +kernel
theorem dX5_greatestPart_47 : decode cX5_greatestPart 47 = .ok (.iload 4, 2) := by decide +kernel
theorem dX5_greatestPart_49 : decode cX5_greatestPart 49 = .ok (.isub, 1) := by decide +kernel
theorem dX5_greatestPart_50 : decode cX5_greatestPart 50 = .ok (.invokestatic 340, 3) := by decide +kernel
theorem dX5_greatestPart_53 : decode cX5_greatestPart 53 = .ok (.ireturn, 1) := by decide +kernel
theorem dX5_wonBy_0 : decode cX5_wonBy 0 = .ok (.iload_n 3, 1) := by decide +kernel
theorem dX5_wonBy_1 : decode cX5_wonBy 1 = .ok (.ifCond .gt 30, 3) := by decide +kernel
theorem dX5_wonBy_4 : decode cX5_wonBy 4 = .ok (.aload_n 0, 1) := by decide +kernel
theorem dX5_wonBy_5 : decode cX5_wonBy 5 = .ok (.iload_n 1, 1) := by decide +kernel
theorem dX5_wonBy_6 : decode cX5_wonBy 6 = .ok (.invokevirtual 184, 3) := by decide +kernel
theorem dX5_wonBy_9 : decode cX5_wonBy 9 = .ok (.istore 7, 2) := by decide +kernel
theorem dX5_wonBy_11 : decode cX5_wonBy 11 = .ok (.iload 7, 2) := by decide +kernel
theorem dX5_wonBy_13 : decode cX5_wonBy 13 = .ok (.iload 4, 2) := by decide +kernel
theorem dX5_wonBy_15 : decode cX5_wonBy 15 = .ok (.iand, 1) := by decide +kernel
theorem dX5_wonBy_16 : decode cX5_wonBy 16 = .ok (.invokestatic 173, 3) := by decide +kernel
theorem dX5_wonBy_19 : decode cX5_wonBy 19 = .ok (.iload 7, 2) := by decide +kernel
theorem dX5_wonBy_21 : decode cX5_wonBy 21 = .ok (.iload 4, 2) := by decide +kernel
theorem dX5_wonBy_23 : decode cX5_wonBy 23 = .ok (.iconst (-1), 1) := by decide +kernel
theorem dX5_wonBy_24 : decode cX5_wonBy 24 = .ok (.ixor, 1) := by decide +kernel
theorem dX5_wonBy_25 : decode cX5_wonBy 25 = .ok (.iand, 1) := by decide +kernel
theorem dX5_wonBy_26 : decode cX5_wonBy 26 = .ok (.invokestatic 173, 3) := by decide +kernel
theorem dX5_wonBy_29 : decode cX5_wonBy 29 = .ok (.isub, 1) := by decide +kernel
theorem dX5_wonBy_30 : decode cX5_wonBy 30 = .ok (.ireturn, 1) := by decide +kernel
theorem dX5_wonBy_31 : decode cX5_wonBy 31 = .ok (.iload_n 3, 1) := by decide +kernel
theorem dX5_wonBy_32 : decode cX5_wonBy 32 = .ok (.iconst 2, 1) := by decide +kernel
theorem dX5_wonBy_33 : decode cX5_wonBy 33 = .ok (.irem, 1) := by decide +kernel
theorem dX5_wonBy_34 : decode cX5_wonBy 34 = .ok (.ifCond .ne 7, 3) := by decide +kernel
theorem dX5_wonBy_37 : decode cX5_wonBy 37 = .ok (.iconst 1, 1) := by decide +kernel
theorem dX5_wonBy_38 : decode cX5_wonBy 38 = .ok (.goto 4, 3) := by decide +kernel
theorem dX5_wonBy_41 : decode cX5_wonBy 41 = .ok (.iconst 0, 1) := by decide +kernel
theorem dX5_wonBy_42 : decode cX5_wonBy 42 = .ok (.istore 7, 2) := by decide +kernel
theorem dX5_wonBy_44 : decode cX5_wonBy 44 = .ok (.iload 5, 2) := by decide +kernel
theorem dX5_wonBy_46 : decode cX5_wonBy 46 = .ok (.istore 8, 2) := by decide +kernel
theorem dX5_wonBy_48 : decode cX5_wonBy 48 = .ok (.iload 6, 2) := by decide +kernel
theorem dX5_wonBy_50 : decode cX5_wonBy 50 = .ok (.istore 9, 2) := by decide +kernel
theorem dX5_wonBy_52 : decode cX5_wonBy 52 = .ok (.iconst 0, 1) := by decide +kernel
theorem dX5_wonBy_53 : decode cX5_wonBy 53 = .ok (.istore 10, 2) := by decide +kernel
theorem dX5_wonBy_55 : decode cX5_wonBy 55 = .ok (.iload 10, 2) := by decide +kernel
theorem dX5_wonBy_57 : decode cX5_wonBy 57 = .ok (.bipush 9, 2) := by decide +kernel
theorem dX5_wonBy_59 : decode cX5_wonBy 59 = .ok (.if_icmp .gt 104, 3) := by decide +kernel
theorem dX5_wonBy_62 : decode cX5_wonBy 62 = .ok (.iload 8, 2) := by decide +kernel
theorem dX5_wonBy_64 : decode cX5_wonBy 64 = .ok (.iload 9, 2) := by decide +kernel
theorem dX5_wonBy_66 : decode cX5_wonBy 66 = .ok (.if_icmp .ge 97, 3) := by decide +kernel
theorem dX5_wonBy_69 : decode cX5_wonBy 69 = .ok (.iload 10, 2) := by decide +kernel
theorem dX5_wonBy_71 : decode cX5_wonBy 71 = .ok (.bipush 9, 2) := by decide +kernel
theorem dX5_wonBy_73 : decode cX5_wonBy 73 = .ok (.if_icmp .ne 7, 3) := by decide +kernel
theorem dX5_wonBy_76 : decode cX5_wonBy 76 = .ok (.iconst 1, 1) := by decide +kernel
theorem dX5_wonBy_77 : decode cX5_wonBy 77 = .ok (.goto 4, 3) := by decide +kernel
theorem dX5_wonBy_80 : decode cX5_wonBy 80 = .ok (.iconst 0, 1) := by decide +kernel
theorem dX5_wonBy_81 : decode cX5_wonBy 81 = .ok (.istore 11, 2) := by decide +kernel
theorem dX5_wonBy_83 : decode cX5_wonBy 83 = .ok (.iload 11, 2) := by decide +kernel
theorem dX5_wonBy_85 : decode cX5_wonBy 85 = .ok (.ifCond .eq 7, 3) := by decide +kernel
theorem dX5_wonBy_88 : decode cX5_wonBy 88 = .ok (.iload_n 1, 1) := by decide +kernel
theorem dX5_wonBy_89 : decode cX5_wonBy 89 = .ok (.goto 11, 3) := by decide +kernel
theorem dX5_wonBy_92 : decode cX5_wonBy 92 = .ok (.aload_n 0, 1) := by decide +kernel
theorem dX5_wonBy_93 : decode cX5_wonBy 93 = .ok (.iload_n 1, 1) := by decide +kernel
theorem dX5_wonBy_94 : decode cX5_wonBy 94 = .ok (.iload 10, 2) := by decide +kernel
theorem dX5_wonBy_96 : decode cX5_wonBy 96 = .ok (.iload_n 2, 1) := by decide +kernel
theorem dX5_wonBy_97 : decode cX5_wonBy 97 = .ok (.invokevirtual 227, 3) := by decide +kernel
theorem dX5_wonBy_100 : decode cX5_wonBy 100 = .ok (.istore 12, 2) := by decide +kernel
theorem dX5_wonBy_102 : decode cX5_wonBy 102 = .ok (.aload_n 0, 1) := by decide +kernel
theorem dX5_wonBy_103 : decode cX5_wonBy 103 = .ok (.iload 12, 2) := by decide +kernel
theorem dX5_wonBy_105 : decode cX5_wonBy 105 = .ok (.iload 11, 2) := by decide +kernel
theorem dX5_wonBy_107 : decode cX5_wonBy 107 = .ok (.ifCond .eq 7, 3) := by decide +kernel
theorem dX5_wonBy_110 : decode cX5_wonBy 110 = .ok (.iload_n 2, 1) := by decide +kernel
theorem dX5_wonBy_111 : decode cX5_wonBy 111 = .ok (.goto 6, 3) := by decide +kernel
theorem dX5_wonBy_114 : decode cX5_wonBy 114 = .ok (.iload_n 2, 1) := by decide +kernel
theorem dX5_wonBy_115 : decode cX5_wonBy 115 = .ok (.iconst 1, 1) := by decide +kernel
theorem dX5_wonBy_116 : decode cX5_wonBy 116 = .ok (.iadd, 1) := by decide +kernel
theorem dX5_wonBy_117 : decode cX5_wonBy 117 = .ok (.iload_n 3, 1) := by decide +kernel
theorem dX5_wonBy_118 : decode cX5_wonBy 118 = .ok (.iconst 1, 1) := by decide +kernel
theorem dX5_wonBy_119 : decode cX5_wonBy 119 = .ok (.isub, 1) := by decide +kernel
theorem dX5_wonBy_120 : decode cX5_wonBy 120 = .ok (.iload 4, 2) := by decide +kernel
theorem dX5_wonBy_122 : decode cX5_wonBy 122 = .ok (.iload 8, 2) := by decide +kernel
theorem dX5_wonBy_124 : decode cX5_wonBy 124 = .ok (.iload 9, 2) := by decide +kernel
theorem dX5_wonBy_126 : decode cX5_wonBy 126 = .ok (.invokestatic 262, 3) := by decide +kernel
theorem dX5_wonBy_129 : decode cX5_wonBy 129 = .ok (.istore 13, 2) := by decide +kernel
theorem dX5_wonBy_131 : decode cX5_wonBy 131 = .ok (.iload 7, 2) := by decide +kernel
theorem dX5_wonBy_133 : decode cX5_wonBy 133 = .ok (.ifCond .eq 15, 3) := by decide +kernel
theorem dX5_wonBy_136 : decode cX5_wonBy 136 = .ok (.iload 8, 2) := by decide +kernel
theorem dX5_wonBy_138 : decode cX5_wonBy 138 = .ok (.iload 13, 2) := by decide +kernel
theorem dX5_wonBy_140 : decode cX5_wonBy 140 = .ok (.invokestatic 340, 3) := by decide +kernel
theorem dX5_wonBy_143 : decode cX5_wonBy 143 = .ok (.istore 8, 2) := by decide +kernel
theorem dX5_wonBy_145 : decode cX5_wonBy 145 = .ok (.goto 12, 3) := by decide +kernel
theorem dX5_wonBy_148 : decode cX5_wonBy 148 = .ok (.iload 9, 2) := by decide +kernel
theorem dX5_wonBy_150 : decode cX5_wonBy 150 = .ok (.iload 13, 2) := by decide +kernel
theorem dX5_wonBy_152 : decode cX5_wonBy 152 = .ok (.invokestatic 345, 3) := by decide +kernel
theorem dX5_wonBy_155 : decode cX5_wonBy 155 = .ok (.istore 9, 2) := by decide +kernel
theorem dX5_wonBy_157 : decode cX5_wonBy 157 = .ok (.iinc 10 1, 3) := by decide +kernel
theorem dX5_wonBy_160 : decode cX5_wonBy 160 = .ok (.goto (-105), 3) := by decide +kernel
theorem dX5_wonBy_163 : decode cX5_wonBy 163 = .ok (.iload 7, 2) := by decide +kernel
theorem dX5_wonBy_165 : decode cX5_wonBy 165 = .ok (.ifCond .eq 8, 3) := by decide +kernel
theorem dX5_wonBy_168 : decode cX5_wonBy 168 = .ok (.iload 8, 2) := by decide +kernel
theorem dX5_wonBy_170 : decode cX5_wonBy 170 = .ok (.goto 5, 3) := by decide +kernel
theorem dX5_wonBy_173 : decode cX5_wonBy 173 = .ok (.iload 9, 2) := by decide +kernel
theorem dX5_wonBy_175 : decode cX5_wonBy 175 = .ok (.ireturn, 1) := by decide +kernel
theorem dX5_twelfths_0 : decode cX5_twelfths 0 = .ok (.iload_n 0, 1) := by decide +kernel
theorem dX5_twelfths_1 : decode cX5_twelfths 1 = .ok (.iload_n 2, 1) := by decide +kernel
theorem dX5_twelfths_2 : decode cX5_twelfths 2 = .ok (.ishr, 1) := by decide +kernel
theorem dX5_twelfths_3 : decode cX5_twelfths 3 = .ok (.iconst 1, 1) := by decide +kernel
theorem dX5_twelfths_4 : decode cX5_twelfths 4 = .ok (.iand, 1) := by decide +kernel
theorem dX5_twelfths_5 : decode cX5_twelfths 5 = .ok (.bipush 12, 2) := by decide +kernel
theorem dX5_twelfths_7 : decode cX5_twelfths 7 = .ok (.iload_n 3, 1) := by decide +kernel
theorem dX5_twelfths_8 : decode cX5_twelfths 8 = .ok (.isub, 1) := by decide +kernel
theorem dX5_twelfths_9 : decode cX5_twelfths 9 = .ok (.imul, 1) := by decide +kernel
theorem dX5_twelfths_10 : decode cX5_twelfths 10 = .ok (.iload_n 1, 1) := by decide +kernel
theorem dX5_twelfths_11 : decode cX5_twelfths 11 = .ok (.iload_n 2, 1) := by decide +kernel
theorem dX5_twelfths_12 : decode cX5_twelfths 12 = .ok (.ishr, 1) := by decide +kernel
theorem dX5_twelfths_13 : decode cX5_twelfths 13 = .ok (.iconst 1, 1) := by decide +kernel
theorem dX5_twelfths_14 : decode cX5_twelfths 14 = .ok (.iand, 1) := by decide +kernel
theorem dX5_twelfths_15 : decode cX5_twelfths 15 = .ok (.iload_n 3, 1) := by decide +kernel
theorem dX5_twelfths_16 : decode cX5_twelfths 16 = .ok (.imul, 1) := by decide +kernel
theorem dX5_twelfths_17 : decode cX5_twelfths 17 = .ok (.iadd, 1) := by decide +kernel
theorem dX5_twelfths_18 : decode cX5_twelfths 18 = .ok (.ireturn, 1) := by decide +kernel
