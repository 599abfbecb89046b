theorem dX7_init_0 : decode cX7_init 0 = .ok (.aload_n 0, 1) := by decide +kernel
theorem dX7_init_1 : decode cX7_init 1 = .ok (.invokespecial 1, 3) := by decide +kernel
theorem dX7_init_4 : decode cX7_init 4 = .ok (.aload_n 0, 1) := by decide +kernel
theorem dX7_init_5 : decode cX7_init 5 = .ok (.sipush 3069, 3) := by decide +kernel
theorem dX7_init_8 : decode cX7_init 8 = .ok (.newarray .int, 2) := by decide +kernel
theorem dX7_init_10 : decode cX7_init 10 = .ok (.putfield 7, 3) := by decide +kernel
theorem dX7_init_13 : decode cX7_init 13 = .ok (.aload_n 0, 1) := by decide +kernel
theorem dX7_init_14 : decode cX7_init 14 = .ok (.sipush 3069, 3) := by decide +kernel
theorem dX7_init_17 : decode cX7_init 17 = .ok (.newarray .int, 2) := by decide +kernel
theorem dX7_init_19 : decode cX7_init 19 = .ok (.putfield 13, 3) := by decide +kernel
theorem dX7_init_22 : decode cX7_init 22 = .ok (.aload_n 0, 1) := by decide +kernel
theorem dX7_init_23 : decode cX7_init 23 = .ok (.sipush 3069, 3) := by decide +kernel
theorem dX7_init_26 : decode cX7_init 26 = .ok (.newarray .int, 2) := by decide +kernel
theorem dX7_init_28 : decode cX7_init 28 = .ok (.putfield 16, 3) := by decide +kernel
theorem dX7_init_31 : decode cX7_init 31 = .ok (.aload_n 0, 1) := by decide +kernel
theorem dX7_init_32 : decode cX7_init 32 = .ok (.iconst 4, 1) := by decide +kernel
theorem dX7_init_33 : decode cX7_init 33 = .ok (.newarray .int, 2) := by decide +kernel
theorem dX7_init_35 : decode cX7_init 35 = .ok (.putfield 19, 3) := by decide +kernel
theorem dX7_init_38 : decode cX7_init 38 = .ok (.aload_n 0, 1) := by decide +kernel
theorem dX7_init_39 : decode cX7_init 39 = .ok (.iconst 4, 1) := by decide +kernel
theorem dX7_init_40 : decode cX7_init 40 = .ok (.newarray .int, 2) := by decide +kernel
theorem dX7_init_42 : decode cX7_init 42 = .ok (.putfield 22, 3) := by decide +kernel
theorem dX7_init_45 : decode cX7_init 45 = .ok (.aload_n 0, 1) := by decide +kernel
theorem dX7_init_46 : decode cX7_init 46 = .ok (.bipush 96, 2) := by decide +kernel
theorem dX7_init_48 : decode cX7_init 48 = .ok (.newarray .int, 2) := by decide +kernel
theorem dX7_init_50 : decode cX7_init 50 = .ok (.putfield 25, 3) := by decide +kernel
theorem dX7_init_53 : decode cX7_init 53 = .ok (.aload_n 0, 1) := by decide +kernel
theorem dX7_init_54 : decode cX7_init 54 = .ok (.iconst 5, 1) := by decide +kernel
theorem dX7_init_55 : decode cX7_init 55 = .ok (.newarray .int, 2) := by decide +kernel
theorem dX7_init_57 : decode cX7_init 57 = .ok (.putfield 28, 3) := by decide +kernel
theorem dX7_init_60 : decode cX7_init 60 = .ok (.aload_n 0, 1) := by decide +kernel
theorem dX7_init_61 : decode cX7_init 61 = .ok (.iconst 5, 1) := by decide +kernel
theorem dX7_init_62 : decode cX7_init 62 = .ok (.newarray .int, 2) := by decide +kernel
theorem dX7_init_64 : decode cX7_init 64 = .ok (.putfield 31, 3) := by decide +kernel
theorem dX7_init_67 : decode cX7_init 67 = .ok (.aload_n 0, 1) := by decide +kernel
theorem dX7_init_68 : decode cX7_init 68 = .ok (.iconst 5, 1) := by decide +kernel
theorem dX7_init_69 : decode cX7_init 69 = .ok (.newarray .int, 2) := by decide +kernel
theorem dX7_init_71 : decode cX7_init 71 = .ok (.putfield 34, 3) := by decide +kernel
theorem dX7_init_74 : decode cX7_init 74 = .ok (.aload_n 0, 1) := by decide +kernel
theorem dX7_init_75 : decode cX7_init 75 = .ok (.iconst 5, 1) := by decide +kernel
theorem dX7_init_76 : decode cX7_init 76 = .ok (.newarray .int, 2) := by decide +kernel
theorem dX7_init_78 : decode cX7_init 78 = .ok (.putfield 37, 3) := by decide +kernel
theorem dX7_init_81 : decode cX7_init 81 = .ok (.aload_n 0, 1) := by decide +kernel
theorem dX7_init_82 : decode cX7_init 82 = .ok (.bipush 120, 2) := by decide +kernel
theorem dX7_init_84 : decode cX7_init 84 = .ok (.newarray .int, 2) := by decide +kernel
theorem dX7_init_86 : decode cX7_init 86 = .ok (.putfield 40, 3) := by decide +kernel
theorem dX7_init_89 : decode cX7_init 89 = .ok (.aload_n 0, 1) := by decide +kernel
theorem dX7_init_90 : decode cX7_init 90 = .ok (.bipush 9, 2) := by decide +kernel
theorem dX7_init_92 : decode cX7_init 92 = .ok (.newarray .int, 2) := by decide +kernel
theorem dX7_init_94 : decode cX7_init 94 = .ok (.putfield 43, 3) := by decide +kernel
theorem dX7_init_97 : decode cX7_init 97 = .ok (.aload_n 0, 1) := by decide +kernel
theorem dX7_init_98 : decode cX7_init 98 = .ok (.bipush 9, 2) := by decide +kernel
theorem dX7_init_100 : decode cX7_init 100 = .ok (.newarray .int, 2) := by decide +kernel
theorem dX7_init_102 : decode cX7_init 102 = .ok (.putfield 46, 3) := by decide +kernel
theorem dX7_init_105 : decode cX7_init 105 = .ok (.aload_n 0, 1) := by decide +kernel
theorem dX7_init_106 : decode cX7_init 106 = .ok (.bipush 69, 2) := by decide +kernel
theorem dX7_init_108 : decode cX7_init 108 = .ok (.newarray .int, 2) := by decide +kernel
theorem dX7_init_110 : decode cX7_init 110 = .ok (.putfield 49, 3) := by decide +kernel
theorem dX7_init_113 : decode cX7_init 113 = .ok (.aload_n 0, 1) := by decide +kernel
theorem dX7_init_114 : decode cX7_init 114 = .ok (.bipush 96, 2) := by decide +kernel
theorem dX7_init_116 : decode cX7_init 116 = .ok (.newarray .int, 2) := by decide +kernel
theorem dX7_init_118 : decode cX7_init 118 = .ok (.putfield 52, 3) := by decide +kernel
theorem dX7_init_121 : decode cX7_init 121 = .ok (.aload_n 0, 1) := by decide +kernel
theorem dX7_init_122 : decode cX7_init 122 = .ok (.sipush 128, 3) := by decide +kernel
theorem dX7_init_125 : decode cX7_init 125 = .ok (.newarray .int, 2) := by decide +kernel
theorem dX7_init_127 : decode cX7_init 127 = .ok (.putfield 55, 3) := by decide +kernel
theorem dX7_init_130 : decode cX7_init 130 = .ok (.aload_n 0, 1) := by decide +kernel
theorem dX7_init_131 : decode cX7_init 131 = .ok (.bipush 100, 2) := by decide +kernel
theorem dX7_init_133 : decode cX7_init 133 = .ok (.newarray .int, 2) := by decide +kernel
theorem dX7_init_135 : decode cX7_init 135 = .ok (.putfield 58, 3) := by decide +kernel
theorem dX7_init_138 : decode cX7_init 138 = .ok (.aload_n 0, 1) := by decide +kernel
theorem dX7_init_139 : decode cX7_init 139 = .ok (.bipush 24, 2) := by decide +kernel
theorem dX7_init_141 : decode cX7_init 141 = .ok (.newarray .int, 2) := by decide +kernel
theorem dX7_init_143 : decode cX7_init 143 = .ok (.putfield 61, 3) := by decide +kernel
theorem dX7_init_146 : decode cX7_init 146 = .ok (.aload_n 0, 1) := by decide +kernel
theorem dX7_init_147 : decode cX7_init 147 = .ok (.bipush 60, 2) := by decide +kernel
theorem dX7_init_149 : decode cX7_init 149 = .ok (.newarray .int, 2) := by decide +kernel
theorem dX7_init_151 : decode cX7_init 151 = .ok (.putfield 64, 3) := by decide +kernel
theorem dX7_init_154 : decode cX7_init 154 = .ok (.aload_n 0, 1) := by decide +kernel
theorem dX7_init_155 : decode cX7_init 155 = .ok (.bipush 60, 2) := by decide +kernel
theorem dX7_init_157 : decode cX7_init 157 = .ok (.newarray .int, 2) := by decide +kernel
theorem dX7_init_159 : decode cX7_init 159 = .ok (.putfield 67, 3) := by decide +kernel
theorem dX7_init_162 : decode cX7_init 162 = .ok (.aload_n 0, 1) := by decide +kernel
theorem dX7_init_163 : decode cX7_init 163 = .ok (.getfield 7, 3) := by decide +kernel
theorem dX7_init_166 : decode cX7_init 166 = .ok (.iconst 5, 1) := by decide +kernel
theorem dX7_init_167 : decode cX7_init 167 = .ok (.iconst 1, 1) := by decide +kernel
theorem dX7_init_168 : decode cX7_init 168 = .ok (.iastore, 1) := by decide +kernel
theorem dX7_init_169 : decode cX7_init 169 = .ok (.iconst 0, 1) := by decide +kernel
theorem dX7_init_170 : decode cX7_init 170 = .ok (.istore_n 1, 1) := by decide +kernel
theorem dX7_init_171 : decode cX7_init 171 = .ok (.iload_n 1, 1) := by decide +kernel
theorem dX7_init_172 : decode cX7_init 172 = .ok (.iconst 4, 1) := by decide +kernel
theorem dX7_init_173 : decode cX7_init 173 = .ok (.if_icmp .ge 16, 3) := by decide +kernel
theorem dX7_init_176 : decode cX7_init 176 = .ok (.aload_n 0, 1) := by decide +kernel
theorem dX7_init_177 : decode cX7_init 177 = .ok (.getfield 19, 3) := by decide +kernel
theorem dX7_init_180 : decode cX7_init 180 = .ok (.iload_n 1, 1) := by decide +kernel
theorem dX7_init_181 : decode cX7_init 181 = .ok (.iconst (-1), 1) := by decide +kernel
theorem dX7_init_182 : decode cX7_init 182 = .ok (.iastore, 1) := by decide +kernel
theorem dX7_init_183 : decode cX7_init 183 = .ok (.iinc 1 1, 3) := by decide +kernel
theorem dX7_init_186 : decode cX7_init 186 = .ok (.goto (-15), 3) := by decide +kernel
theorem dX7_init_189 : decode cX7_init 189 = .ok (.return_, 1) := by decide +kernel
theorem dX7_isIn_0 : decode cX7_isIn 0 = .ok (.lload_n 0, 1) := by decide +kernel
theorem dX7_isIn_1 : decode cX7_isIn 1 = .ok (.lload_n 2, 1) := by decide +kernel
theorem dX7_isIn_2 : decode cX7_isIn 2 = .ok (.lcmp, 1) := by decide +kernel
theorem dX7_isIn_3 : decode cX7_isIn 3 = .ok (.ifCond .lt 14, 3) := by decide +kernel
theorem dX7_isIn_6 : decode cX7_isIn 6 = .ok (.lload_n 0, 1) := by decide +kernel
theorem dX7_isIn_7 : decode cX7_isIn 7 = .ok (.lload 4, 2) := by decide +kernel
theorem dX7_isIn_9 : decode cX7_isIn 9 = .ok (.lcmp, 1) := by decide +kernel
theorem dX7_isIn_10 : decode cX7_isIn 10 = .ok (.ifCond .gt 7, 3) := by decide +kernel
theorem dX7_isIn_13 : decode cX7_isIn 13 = .ok (.iconst 1, 1) := by decide +kernel
theorem dX7_isIn_14 : decode cX7_isIn 14 = .ok (.goto 4, 3) := by decide +kernel
theorem dX7_isIn_17 : decode cX7_isIn 17 = .ok (.iconst 0, 1) := by decide +kernel
theorem dX7_isIn_18 : decode cX7_isIn 18 = .ok (.ireturn, 1) := by decide +kernel
theorem dX7_orNone_0 : decode cX7_orNone 0 = .ok (.iload_n 0, 1) := by decide +kernel
theorem dX7_orNone_1 : decode cX7_orNone 1 = .ok (.ifCond .ge 8, 3) := by decide +kernel
theorem dX7_orNone_4 : decode cX7_orNone 4 = .ok (.ldc 70, 2) := by decide +kernel
theorem dX7_orNone_6 : decode cX7_orNone 6 = .ok (.goto 4, 3) := by decide +kernel
theorem dX7_orNone_9 : decode cX7_orNone 9 = .ok (.iload_n 0, 1) := by decide +kernel
theorem dX7_orNone_10 : decode cX7_orNone 10 = .ok (.ireturn, 1) := by decide +kernel
theorem dX7_held_0 : decode cX7_held 0 = .ok (.iload_n 0, 1) := by decide +kernel
theorem dX7_held_1 : decode cX7_held 1 = .ok (.iload_n 1, 1) := by decide +kernel
theorem dX7_held_2 : decode cX7_held 2 = .ok (.if_icmp .ge 7, 3) := by decide +kernel
theorem dX7_held_5 : decode cX7_held 5 = .ok (.iload_n 1, 1) := by decide +kernel
theorem dX7_held_6 : decode cX7_held 6 = .ok (.goto 13, 3) := by decide +kernel
theorem dX7_held_9 : decode cX7_held 9 = .ok (.iload_n 0, 1) := by decide +kernel
theorem dX7_held_10 : decode cX7_held 10 = .ok (.iload_n 2, 1) := by decide +kernel
theorem dX7_held_11 : decode cX7_held 11 = .ok (.if_icmp .le 7, 3) := by decide +kernel
theorem dX7_held_14 : decode cX7_held 14 = .ok (.iload_n 2, 1) := by decide +kernel
theorem dX7_held_15 : decode cX7_held 15 = .ok (.goto 4, 3) := by decide +kernel
theorem dX7_held_18 : decode cX7_held 18 = .ok (.iload_n 0, 1) := by decide +kernel
theorem dX7_held_19 : decode cX7_held 19 = .ok (.ireturn, 1) := by decide +kernel
theorem dX7_off_0 : decode cX7_off 0 = .ok (.iload_n 0, 1) := by decide +kernel
theorem dX7_off_1 : decode cX7_off 1 = .ok (.iload_n 1, 1) := by decide +kernel
theorem dX7_off_2 : decode cX7_off 2 = .ok (.if_icmp .ge 9, 3) := by decide +kernel
theorem dX7_off_5 : decode cX7_off 5 = .ok (.iload_n 1, 1) := by decide +kernel
theorem dX7_off_6 : decode cX7_off 6 = .ok (.iload_n 0, 1) := by decide +kernel
theorem dX7_off_7 : decode cX7_off 7 = .ok (.isub, 1) := by decide +kernel
theorem dX7_off_8 : decode cX7_off 8 = .ok (.goto 6, 3) := by decide +kernel
theorem dX7_off_11 : decode cX7_off 11 = .ok (.iload_n 0, 1) := by decide +kernel
theorem dX7_off_12 : decode cX7_off 12 = .ok (.iload_n 1, 1) := by decide +kernel
theorem dX7_off_13 : decode cX7_off 13 = .ok (.isub, 1) := by decide +kernel
theorem dX7_off_14 : decode cX7_off 14 = .ok (.ireturn, 1) := by decide +kernel
theorem dX7_manyIn_0 : decode cX7_manyIn 0 = .ok (.iconst 0, 1) := by decide +kernel
theorem dX7_manyIn_1 : decode cX7_manyIn 1 = .ok (.istore_n 1, 1) := by decide +kernel
theorem dX7_manyIn_2 : decode cX7_manyIn 2 = .ok (.iload_n 0, 1) := by decide +kernel
theorem dX7_manyIn_3 : decode cX7_manyIn 3 = .ok (.istore_n 2, 1) := by decide +kernel
theorem dX7_manyIn_4 : decode cX7_manyIn 4 = .ok (.iload_n 2, 1) := by decide +kernel
theorem dX7_manyIn_5 : decode cX7_manyIn 5 = .ok (.ifCond .eq 15, 3) := by decide +kernel
theorem dX7_manyIn_8 : decode cX7_manyIn 8 = .ok (.iinc 1 1, 3) := by decide +kernel
theorem dX7_manyIn_11 : decode cX7_manyIn 11 = .ok (.iload_n 2, 1) := by decide +kernel
theorem dX7_manyIn_12 : decode cX7_manyIn 12 = .ok (.iload_n 2, 1) := by decide +kernel
theorem dX7_manyIn_13 : decode cX7_manyIn 13 = .ok (.iconst 1, 1) := by decide +kernel
theorem dX7_manyIn_14 : decode cX7_manyIn 14 = .ok (.isub, 1) := by decide +kernel
theorem dX7_manyIn_15 : decode cX7_manyIn 15 = .ok (.iand, 1) := by decide +kernel
theorem dX7_manyIn_16 : decode cX7_manyIn 16 = .ok (.istore_n 2, 1) := by decide +kernel
theorem dX7_manyIn_17 : decode cX7_manyIn 17 = .ok (.goto (-13), 3) := by decide +kernel
theorem dX7_manyIn_20 : decode cX7_manyIn 20 = .ok (.iload_n 1, 1) := by decide +kernel
theorem dX7_manyIn_21 : decode cX7_manyIn 21 = .ok (.ireturn, 1) := by decide +kernel
theorem dX7_becomes_0 : decode cX7_becomes 0 = .ok (.aload_n 0, 1) := by decide +kernel
theorem dX7_becomes_1 : decode cX7_becomes 1 = .ok (.getfield 7, 3) := by decide +kernel
theorem dX7_becomes_4 : decode cX7_becomes 4 = .ok (.iload_n 1, 1) := by decide +kernel
theorem dX7_becomes_5 : decode cX7_becomes 5 = .ok (.iaload, 1) := by decide +kernel
theorem dX7_becomes_6 : decode cX7_becomes 6 = .ok (.istore_n 3, 1) := by decide +kernel
theorem dX7_becomes_7 : decode cX7_becomes 7 = .ok (.aload_n 0, 1) := by decide +kernel
theorem dX7_becomes_8 : decode cX7_becomes 8 = .ok (.getfield 7, 3) := by decide +kernel
theorem dX7_becomes_11 : decode cX7_becomes 11 = .ok (.iload_n 1, 1) := by decide +kernel
theorem dX7_becomes_12 : decode cX7_becomes 12 = .ok (.iload_n 2, 1) := by decide +kernel
theorem dX7_becomes_13 : decode cX7_becomes 13 = .ok (.iastore, 1) := by decide +kernel
theorem dX7_becomes_14 : decode cX7_becomes 14 = .ok (.iload_n 3, 1) := by decide +kernel
theorem dX7_becomes_15 : decode cX7_becomes 15 = .ok (.ireturn, 1) := by decide +kernel
theorem dX7_textAt_0 : decode cX7_textAt 0 = .ok (.bipush 69, 2) := by decide +kernel
theorem dX7_textAt_2 : decode cX7_textAt 2 = .ok (.sipush 200, 3) := by decide +kernel
theorem dX7_textAt_5 : decode cX7_textAt 5 = .ok (.iload_n 1, 1) := by decide +kernel
theorem dX7_textAt_6 : decode cX7_textAt 6 = .ok (.imul, 1) := by decide +kernel
theorem dX7_textAt_7 : decode cX7_textAt 7 = .ok (.iadd, 1) := by decide +kernel
theorem dX7_textAt_8 : decode cX7_textAt 8 = .ok (.ireturn, 1) := by decide +kernel
theorem dX7_of_0 : decode cX7_of 0 = .ok (.aload_n 0, 1) := by decide +kernel
theorem dX7_of_1 : decode cX7_of 1 = .ok (.getfield 7, 3) := by decide +kernel
theorem dX7_of_4 : decode cX7_of 4 = .ok (.bipush 6, 2) := by decide +kernel
theorem dX7_of_6 : decode cX7_of 6 = .ok (.bipush 7, 2) := by decide +kernel
theorem dX7_of_8 : decode cX7_of 8 = .ok (.iload_n 1, 1) := by decide +kernel
theorem dX7_of_9 : decode cX7_of 9 = .ok (.imul, 1) := by decide +kernel
theorem dX7_of_10 : decode cX7_of 10 = .ok (.iadd, 1) := by decide +kernel
theorem dX7_of_11 : decode cX7_of 11 = .ok (.iload_n 2, 1) := by decide +kernel
theorem dX7_of_12 : decode cX7_of 12 = .ok (.iadd, 1) := by decide +kernel
theorem dX7_of_13 : decode cX7_of 13 = .ok (.iaload, 1) := by decide +kernel
theorem dX7_of_14 : decode cX7_of 14 = .ok (.ireturn, 1) := by decide +kernel
theorem dX7_sets_0 : decode cX7_sets 0 = .ok (.aload_n 0, 1) := by decide +kernel
theorem dX7_sets_1 : decode cX7_sets 1 = .ok (.getfield 7, 3) := by decide +kernel
theorem dX7_sets_4 : decode cX7_sets 4 = .ok (.bipush 6, 2) := by decide +kernel
theorem dX7_sets_6 : decode cX7_sets 6 = .ok (.bipush 7, 2) := by decide +kernel
theorem dX7_sets_8 : decode cX7_sets 8 = .ok (.iload_n 1, 1) := by decide +kernel
theorem dX7_sets_9 : decode cX7_sets 9 = .ok (.imul, 1) := by decide +kernel
theorem dX7_sets_10 : decode cX7_sets 10 = .ok (.iadd, 1) := by decide +kernel
theorem dX7_sets_11 : decode cX7_sets 11 = .ok (.iload_n 2, 1) := by decide +kernel
theorem dX7_sets_12 : decode cX7_sets 12 = .ok (.iadd, 1) := by decide +kernel
theorem dX7_sets_13 : decode cX7_sets 13 = .ok (.iload_n 3, 1) := by decide +kernel
theorem dX7_sets_14 : decode cX7_sets 14 = .ok (.iastore, 1) := by decide +kernel
theorem dX7_sets_15 : decode cX7_sets 15 = .ok (.return_, 1) := by decide +kernel
theorem dX7_isHouse_0 : decode cX7_isHouse 0 = .ok (.iload_n 1, 1) := by decide +kernel
theorem dX7_isHouse_1 : decode cX7_isHouse 1 = .ok (.i2l, 1) := by decide +kernel
theorem dX7_isHouse_2 : decode cX7_isHouse 2 = .ok (.lconst 0, 1) := by decide +kernel
theorem dX7_isHouse_3 : decode cX7_isHouse 3 = .ok (.aload_n 0, 1) := by decide +kernel
theorem dX7_isHouse_4 : decode cX7_isHouse 4 = .ok (.getfield 7, 3) := by decide +kernel
theorem dX7_isHouse_7 : decode cX7_isHouse 7 = .ok (.iconst 0, 1) := by decide +kernel
theorem dX7_isHouse_8 : decode cX7_isHouse 8 = .ok (.iaload, 1) := by decide +kernel
theorem dX7_isHouse_9 : decode cX7_isHouse 9 = .ok (.iconst 1, 1) := by decide +kernel
theorem dX7_isHouse_10 : decode cX7_isHouse 10 = .ok (.isub, 1) := by decide +kernel
theorem dX7_isHouse_11 : decode cX7_isHouse 11 = .ok (.i2l, 1) := by decide +kernel
theorem dX7_isHouse_12 : decode cX7_isHouse 12 = .ok (.invokestatic 71, 3) := by decide +kernel
theorem dX7_isHouse_15 : decode cX7_isHouse 15 = .ok (.ireturn, 1) := by decide +kernel
theorem dX7_stands_0 : decode cX7_stands 0 = .ok (.aload_n 0, 1) := by decide +kernel
theorem dX7_stands_1 : decode cX7_stands 1 = .ok (.iload_n 1, 1) := by decide +kernel
theorem dX7_stands_2 : decode cX7_stands 2 = .ok (.bipush 6, 2) := by decide +kernel
theorem dX7_stands_4 : decode cX7_stands 4 = .ok (.invokevirtual 75, 3) := by decide +kernel
theorem dX7_stands_7 : decode cX7_stands 7 = .ok (.ifCond .ne 7, 3) := by decide +kernel
theorem dX7_stands_10 : decode cX7_stands 10 = .ok (.iconst 1, 1) := by decide +kernel
theorem dX7_stands_11 : decode cX7_stands 11 = .ok (.goto 4, 3) := by decide +kernel
theorem dX7_stands_14 : decode cX7_stands 14 = .ok (.iconst 0, 1) := by decide +kernel
theorem dX7_stands_15 : decode cX7_stands 15 = .ok (.ireturn, 1) := by decide +kernel
theorem dX7_isText_0 : decode cX7_isText 0 = .ok (.iload_n 1, 1) := by decide +kernel
theorem dX7_isText_1 : decode cX7_isText 1 = .ok (.i2l, 1) := by decide +kernel
theorem dX7_isText_2 : decode cX7_isText 2 = .ok (.lconst 0, 1) := by decide +kernel
theorem dX7_isText_3 : decode cX7_isText 3 = .ok (.aload_n 0, 1) := by decide +kernel
theorem dX7_isText_4 : decode cX7_isText 4 = .ok (.getfield 7, 3) := by decide +kernel
theorem dX7_isText_7 : decode cX7_isText 7 = .ok (.iconst 1, 1) := by decide +kernel
theorem dX7_isText_8 : decode cX7_isText 8 = .ok (.iaload, 1) := by decide +kernel
theorem dX7_isText_9 : decode cX7_isText 9 = .ok (.iconst 1, 1) := by decide +kernel
theorem dX7_isText_10 : decode cX7_isText 10 = .ok (.isub, 1) := by decide +kernel
theorem dX7_isText_11 : decode cX7_isText 11 = .ok (.i2l, 1) := by decide +kernel
theorem dX7_isText_12 : decode cX7_isText 12 = .ok (.invokestatic 71, 3) := by decide +kernel
theorem dX7_isText_15 : decode cX7_isText 15 = .ok (.ireturn, 1) := by decide +kernel
theorem dX7_drawn_0 : decode cX7_drawn 0 = .ok (.aload_n 0, 1) := by decide +kernel
theorem dX7_drawn_1 : decode cX7_drawn 1 = .ok (.getfield 7, 3) := by decide +kernel
theorem dX7_drawn_4 : decode cX7_drawn 4 = .ok (.iconst 5, 1) := by decide +kernel
theorem dX7_drawn_5 : decode cX7_drawn 5 = .ok (.aload_n 0, 1) := by decide +kernel
theorem dX7_drawn_6 : decode cX7_drawn 6 = .ok (.getfield 7, 3) := by decide +kernel
theorem dX7_drawn_9 : decode cX7_drawn 9 = .ok (.iconst 5, 1) := by decide +kernel
theorem dX7_drawn_10 : decode cX7_drawn 10 = .ok (.iaload, 1) := by decide +kernel
theorem dX7_drawn_11 : decode cX7_drawn 11 = .ok (.ldc 79, 2) := by decide +kernel
theorem dX7_drawn_13 : decode cX7_drawn 13 = .ok (.imul, 1) := by decide +kernel
theorem dX7_drawn_14 : decode cX7_drawn 14 = .ok (.sipush 12345, 3) := by decide +kernel
theorem dX7_drawn_17 : decode cX7_drawn 17 = .ok (.iadd, 1) := by decide +kernel
theorem dX7_drawn_18 : decode cX7_drawn 18 = .ok (.iastore, 1) := by decide +kernel
theorem dX7_drawn_19 : decode cX7_drawn 19 = .ok (.aload_n 0, 1) := by decide +kernel
theorem dX7_drawn_20 : decode cX7_drawn 20 = .ok (.getfield 7, 3) := by decide +kernel
theorem dX7_drawn_23 : decode cX7_drawn 23 = .ok (.iconst 5, 1) := by decide +kernel
theorem dX7_drawn_24 : decode cX7_drawn 24 = .ok (.iaload, 1) := by decide +kernel
theorem dX7_drawn_25 : decode cX7_drawn 25 = .ok (.bipush 8, 2) := by decide +kernel
theorem dX7_drawn_27 : decode cX7_drawn 27 = .ok (.iushr, 1) := by decide +kernel
theorem dX7_drawn_28 : decode cX7_drawn 28 = .ok (.ireturn, 1) := by decide +kernel
theorem dX7_comes_0 : decode cX7_comes 0 = .ok (.aload_n 0, 1) := by decide +kernel
theorem dX7_comes_1 : decode cX7_comes 1 = .ok (.getfield 7, 3) := by decide +kernel
theorem dX7_comes_4 : decode cX7_comes 4 = .ok (.iconst 0, 1) := by decide +kernel
theorem dX7_comes_5 : decode cX7_comes 5 = .ok (.iaload, 1) := by decide +kernel
theorem dX7_comes_6 : decode cX7_comes 6 = .ok (.istore 5, 2) := by decide +kernel
theorem dX7_comes_8 : decode cX7_comes 8 = .ok (.aload_n 0, 1) := by decide +kernel
theorem dX7_comes_9 : decode cX7_comes 9 = .ok (.getfield 7, 3) := by decide +kernel
theorem dX7_comes_12 : decode cX7_comes 12 = .ok (.iconst 0, 1) := by decide +kernel
theorem dX7_comes_13 : decode cX7_comes 13 = .ok (.dup2, 1) := by decide +kernel
theorem dX7_comes_14 : decode cX7_comes 14 = .ok (.iaload, 1) := by decide +kernel
theorem dX7_comes_15 : decode cX7_comes 15 = .ok (.iconst 1, 1) := by decide +kernel
theorem dX7_comes_16 : decode cX7_comes 16 = .ok (.iadd, 1) := by decide +kernel
theorem dX7_comes_17 : decode cX7_comes 17 = .ok (.iastore, 1) := by decide +kernel
theorem dX7_comes_18 : decode cX7_comes 18 = .ok (.aload_n 0, 1) := by decide +kernel
theorem dX7_comes_19 : decode cX7_comes 19 = .ok (.iload 5, 2) := by decide +kernel
theorem dX7_comes_21 : decode cX7_comes 21 = .ok (.iconst 0, 1) := by decide +kernel
theorem dX7_comes_22 : decode cX7_comes 22 = .ok (.iload_n 1, 1) := by decide +kernel
theorem dX7_comes_23 : decode cX7_comes 23 = .ok (.invokevirtual 80, 3) := by decide +kernel
theorem dX7_comes_26 : decode cX7_comes 26 = .ok (.aload_n 0, 1) := by decide +kernel
theorem dX7_comes_27 : decode cX7_comes 27 = .ok (.iload 5, 2) := by decide +kernel
theorem dX7_comes_29 : decode cX7_comes 29 = .ok (.iconst 1, 1) := by decide +kernel
theorem dX7_comes_30 : decode cX7_comes 30 = .ok (.iload_n 2, 1) := by decide +kernel
theorem dX7_comes_31 : decode cX7_comes 31 = .ok (.invokevirtual 80, 3) := by decide +kernel
theorem dX7_comes_34 : decode cX7_comes 34 = .ok (.aload_n 0, 1) := by decide +kernel
theorem dX7_comes_35 : decode cX7_comes 35 = .ok (.iload 5, 2) := by decide +kernel
theorem dX7_comes_37 : decode cX7_comes 37 = .ok (.iconst 2, 1) := by decide +kernel
theorem dX7_comes_38 : decode cX7_comes 38 = .ok (.iload_n 3, 1) := by decide +kernel
theorem dX7_comes_39 : decode cX7_comes 39 = .ok (.invokevirtual 80, 3) := by decide +kernel
theorem dX7_comes_42 : decode cX7_comes 42 = .ok (.aload_n 0, 1) := by decide +kernel
theorem dX7_comes_43 : decode cX7_comes 43 = .ok (.iload 5, 2) := by decide +kernel
theorem dX7_comes_45 : decode cX7_comes 45 = .ok (.iconst 3, 1) := by decide +kernel
theorem dX7_comes_46 : decode cX7_comes 46 = .ok (.iload 4, 2) := by decide +kernel
theorem dX7_comes_48 : decode cX7_comes 48 = .ok (.invokevirtual 80, 3) := by decide +kernel
theorem dX7_comes_51 : decode cX7_comes 51 = .ok (.aload_n 0, 1) := by decide +kernel
theorem dX7_comes_52 : decode cX7_comes 52 = .ok (.iload 5, 2) := by decide +kernel
theorem dX7_comes_54 : decode cX7_comes 54 = .ok (.iconst 4, 1) := by decide +kernel
theorem dX7_comes_55 : decode cX7_comes 55 = .ok (.iconst 0, 1) := by decide +kernel
theorem dX7_comes_56 : decode cX7_comes 56 = .ok (.invokevirtual 80, 3) := by decide +kernel
theorem dX7_comes_59 : decode cX7_comes 59 = .ok (.aload_n 0, 1) := by decide +kernel
theorem dX7_comes_60 : decode cX7_comes 60 = .ok (.iload 5, 2) := by decide +kernel
theorem dX7_comes_62 : decode cX7_comes 62 = .ok (.iconst 5, 1) := by decide +kernel
theorem dX7_comes_63 : decode cX7_comes 63 = .ok (.iconst 0, 1) := by decide +kernel
theorem dX7_comes_64 : decode cX7_comes 64 = .ok (.invokevirtual 80, 3) := by decide +kernel
theorem dX7_comes_67 : decode cX7_comes 67 = .ok (.aload_n 0, 1) := by decide +kernel
theorem dX7_comes_68 : decode cX7_comes 68 = .ok (.iload 5, 2) := by decide +kernel
theorem dX7_comes_70 : decode cX7_comes 70 = .ok (.bipush 6, 2) := by decide +kernel
theorem dX7_comes_72 : decode cX7_comes 72 = .ok (.iconst 0, 1) := by decide +kernel
theorem dX7_comes_73 : decode cX7_comes 73 = .ok (.invokevirtual 80, 3) := by decide +kernel
theorem dX7_comes_76 : decode cX7_comes 76 = .ok (.return_, 1) := by decide +kernel
theorem dX7_mayBe_0 : decode cX7_mayBe 0 = .ok (.iload_n 0, 1) := by decide +kernel
theorem dX7_mayBe_1 : decode cX7_mayBe 1 = .ok (.tableswitch 87 1 5 #[35, 45, 57, 67, 77], 35) := by decide +kernel
theorem dX7_mayBe_36 : decode cX7_mayBe 36 = .ok (.iload_n 1, 1) := by decide +kernel
theorem dX7_mayBe_37 : decode cX7_mayBe 37 = .ok (.i2l, 1) := by decide +kernel
theorem dX7_mayBe_38 : decode cX7_mayBe 38 = .ok (.lconst 1, 1) := by decide +kernel
theorem dX7_mayBe_39 : decode cX7_mayBe 39 = .ok (.ldc2_w 84, 3) := by decide +kernel
theorem dX7_mayBe_42 : decode cX7_mayBe 42 = .ok (.invokestatic 71, 3) := by decide +kernel
theorem dX7_mayBe_45 : decode cX7_mayBe 45 = .ok (.ireturn, 1) := by decide +kernel
theorem dX7_mayBe_46 : decode cX7_mayBe 46 = .ok (.iload_n 1, 1) := by decide +kernel
theorem dX7_mayBe_47 : decode cX7_mayBe 47 = .ok (.i2l, 1) := by decide +kernel
theorem dX7_mayBe_48 : decode cX7_mayBe 48 = .ok (.ldc2_w 86, 3) := by decide +kernel
theorem dX7_mayBe_51 : decode cX7_mayBe 51 = .ok (.ldc2_w 88, 3) := by decide +kernel
theorem dX7_mayBe_54 : decode cX7_mayBe 54 = .ok (.invokestatic 71, 3) := by decide +kernel
theorem dX7_mayBe_57 : decode cX7_mayBe 57 = .ok (.ireturn, 1) := by decide +kernel
theorem dX7_mayBe_58 : decode cX7_mayBe 58 = .ok (.iload_n 1, 1) := by decide +kernel
theorem dX7_mayBe_59 : decode cX7_mayBe 59 = .ok (.i2l, 1) := by decide +kernel
theorem dX7_mayBe_60 : decode cX7_mayBe 60 = .ok (.lconst 0, 1) := by decide +kernel
theorem dX7_mayBe_61 : decode cX7_mayBe 61 = .ok (.ldc2_w 84, 3) := by decide +kernel
theorem dX7_mayBe_64 : decode cX7_mayBe 64 = .ok (.invokestatic 71, 3) := by decide +kernel
theorem dX7_mayBe_67 : decode cX7_mayBe 67 = .ok (.ireturn, 1) := by decide +kernel
theorem dX7_mayBe_68 : decode cX7_mayBe 68 = .ok (.iload_n 1, 1) := by decide +kernel
theorem dX7_mayBe_69 : decode cX7_mayBe 69 = .ok (.i2l, 1) := by decide +kernel
theorem dX7_mayBe_70 : decode cX7_mayBe 70 = .ok (.lconst 0, 1) := by decide +kernel
theorem dX7_mayBe_71 : decode cX7_mayBe 71 = .ok (.ldc2_w 90, 3) := by decide +kernel
theorem dX7_mayBe_74 : decode cX7_mayBe 74 = .ok (.invokestatic 71, 3) := by decide +kernel
theorem dX7_mayBe_77 : decode cX7_mayBe 77 = .ok (.ireturn, 1) := by decide +kernel
theorem dX7_mayBe_78 : decode cX7_mayBe 78 = .ok (.iload_n 1, 1) := by decide +kernel
theorem dX7_mayBe_79 : decode cX7_mayBe 79 = .ok (.i2l, 1) := by decide +kernel
theorem dX7_mayBe_80 : decode cX7_mayBe 80 = .ok (.lconst 0, 1) := by decide +kernel
theorem dX7_mayBe_81 : decode cX7_mayBe 81 = .ok (.ldc2_w 92, 3) := by decide +kernel
theorem dX7_mayBe_84 : decode cX7_mayBe 84 = .ok (.invokestatic 71, 3) := by decide +kernel
theorem dX7_mayBe_87 : decode cX7_mayBe 87 = .ok (.ireturn, 1) := by decide +kernel
theorem dX7_mayBe_88 : decode cX7_mayBe 88 = .ok (.iconst 0, 1) := by decide +kernel
theorem dX7_mayBe_89 : decode cX7_mayBe 89 = .ok (.ireturn, 1) := by decide +kernel
theorem dX7_house_0 : decode cX7_house 0 = .ok (.iload_n 1, 1) := by decide +kernel
theorem dX7_house_1 : decode cX7_house 1 = .ok (.i2l, 1) := by decide +kernel
theorem dX7_house_2 : decode cX7_house 2 = .ok (.lconst 0, 1) := by decide +kernel
theorem dX7_house_3 : decode cX7_house 3 = .ok (.ldc2_w 94, 3) := by decide +kernel
theorem dX7_house_6 : decode cX7_house 6 = .ok (.invokestatic 71, 3) := by decide +kernel
theorem dX7_house_9 : decode cX7_house 9 = .ok (.ifCond .eq 28, 3) := by decide +kernel
theorem dX7_house_12 : decode cX7_house 12 = .ok (.iconst 1, 1) := by decide +kernel
theorem dX7_house_13 : decode cX7_house 13 = .ok (.iload_n 2, 1) := by decide +kernel
theorem dX7_house_14 : decode cX7_house 14 = .ok (.invokestatic 96, 3) := by decide +kernel
theorem dX7_house_17 : decode cX7_house 17 = .ok (.ifCond .eq 20, 3) := by decide +kernel
theorem dX7_house_20 : decode cX7_house 20 = .ok (.iconst 2, 1) := by decide +kernel
theorem dX7_house_21 : decode cX7_house 21 = .ok (.iload_n 3, 1) := by decide +kernel
theorem dX7_house_22 : decode cX7_house 22 = .ok (.invokestatic 96, 3) := by decide +kernel
theorem dX7_house_25 : decode cX7_house 25 = .ok (.ifCond .eq 12, 3) := by decide +kernel
theorem dX7_house_28 : decode cX7_house 28 = .ok (.iconst 3, 1) := by decide +kernel
theorem dX7_house_29 : decode cX7_house 29 = .ok (.iload 4, 2) := by decide +kernel
theorem dX7_house_31 : decode cX7_house 31 = .ok (.invokestatic 96, 3) := by decide +kernel
theorem dX7_house_34 : decode cX7_house 34 = .ok (.ifCond .ne 6, 3) := by decide +kernel
theorem dX7_house_37 : decode cX7_house 37 = .ok (.ldc 100, 2) := by decide +kernel
theorem dX7_house_39 : decode cX7_house 39 = .ok (.ireturn, 1) := by decide +kernel
theorem dX7_house_40 : decode cX7_house 40 = .ok (.aload_n 0, 1) := by decide +kernel
theorem dX7_house_41 : decode cX7_house 41 = .ok (.getfield 7, 3) := by decide +kernel
theorem dX7_house_44 : decode cX7_house 44 = .ok (.iconst 0, 1) := by decide +kernel
theorem dX7_house_45 : decode cX7_house 45 = .ok (.iaload, 1) := by decide +kernel
theorem dX7_house_46 : decode cX7_house 46 = .ok (.bipush 9, 2) := by decide +kernel
theorem dX7_house_48 : decode cX7_house 48 = .ok (.if_icmp .ne 6, 3) := by decide +kernel
theorem dX7_house_51 : decode cX7_house 51 = .ok (.ldc 101, 2) := by decide +kernel
theorem dX7_house_53 : decode cX7_house 53 = .ok (.ireturn, 1) := by decide +kernel
theorem dX7_house_54 : decode cX7_house 54 = .ok (.aload_n 0, 1) := by decide +kernel
theorem dX7_house_55 : decode cX7_house 55 = .ok (.iload_n 1, 1) := by decide +kernel
theorem dX7_house_56 : decode cX7_house 56 = .ok (.iload_n 2, 1) := by decide +kernel
theorem dX7_house_57 : decode cX7_house 57 = .ok (.iload_n 3, 1) := by decide +kernel
theorem dX7_house_58 : decode cX7_house 58 = .ok (.iload 4, 2) := by decide +kernel
theorem dX7_house_60 : decode cX7_house 60 = .ok (.invokevirtual 102, 3) := by decide +kernel
theorem dX7_house_63 : decode cX7_house 63 = .ok (.aload_n 0, 1) := by decide +kernel
theorem dX7_house_64 : decode cX7_house 64 = .ok (.getfield 7, 3) := by decide +kernel
theorem dX7_house_67 : decode cX7_house 67 = .ok (.iconst 0, 1) := by decide +kernel
theorem dX7_house_68 : decode cX7_house 68 = .ok (.iaload, 1) := by decide +kernel
theorem dX7_house_69 : decode cX7_house 69 = .ok (.iconst 1, 1) := by decide +kernel
theorem dX7_house_70 : decode cX7_house 70 = .ok (.isub, 1) := by decide +kernel
theorem dX7_house_71 : decode cX7_house 71 = .ok (.ireturn, 1) := by decide +kernel
theorem dX7_pushes_0 : decode cX7_pushes 0 = .ok (.aload_n 0, 1) := by decide +kernel
theorem dX7_pushes_1 : decode cX7_pushes 1 = .ok (.iload_n 1, 1) := by decide +kernel
theorem dX7_pushes_2 : decode cX7_pushes 2 = .ok (.iconst 2, 1) := by decide +kernel
theorem dX7_pushes_3 : decode cX7_pushes 3 = .ok (.invokevirtual 75, 3) := by decide +kernel
theorem dX7_pushes_6 : decode cX7_pushes 6 = .ok (.iconst 0, 1) := by decide +kernel
theorem dX7_pushes_7 : decode cX7_pushes 7 = .ok (.invokestatic 106, 3) := by decide +kernel
theorem dX7_pushes_10 : decode cX7_pushes 10 = .ok (.istore_n 2, 1) := by decide +kernel
theorem dX7_pushes_11 : decode cX7_pushes 11 = .ok (.aload_n 0, 1) := by decide +kernel
theorem dX7_pushes_12 : decode cX7_pushes 12 = .ok (.iload_n 1, 1) := by decide +kernel
theorem dX7_pushes_13 : decode cX7_pushes 13 = .ok (.iconst 1, 1) := by decide +kernel
theorem dX7_pushes_14 : decode cX7_pushes 14 = .ok (.invokevirtual 75, 3) := by decide +kernel
theorem dX7_pushes_17 : decode cX7_pushes 17 = .ok (.iload_n 2, 1) := by decide +kernel
theorem dX7_pushes_18 : decode cX7_pushes 18 = .ok (.imul, 1) := by decide +kernel
theorem dX7_pushes_19 : decode cX7_pushes 19 = .ok (.bipush 10, 2) := by decide +kernel
theorem dX7_pushes_21 : decode cX7_pushes 21 = .ok (.idiv, 1) := by decide +kernel
theorem dX7_pushes_22 : decode cX7_pushes 22 = .ok (.istore_n 3, 1) := by decide +kernel
theorem dX7_pushes_23 : decode cX7_pushes 23 = .ok (.aload_n 0, 1) := by decide +kernel
theorem dX7_pushes_24 : decode cX7_pushes 24 = .ok (.iconst 0, 1) := by decide +kernel
theorem dX7_pushes_25 : decode cX7_pushes 25 = .ok (.invokevirtual 109, 3) := by decide +kernel
theorem dX7_pushes_28 : decode cX7_pushes 28 = .ok (.istore 4, 2) := by decide +kernel
theorem dX7_pushes_30 : decode cX7_pushes 30 = .ok (.iload 4, 2) := by decide +kernel
theorem dX7_pushes_32 : decode cX7_pushes 32 = .ok (.ifCond .lt 51, 3) := by decide +kernel
theorem dX7_pushes_35 : decode cX7_pushes 35 = .ok (.aload_n 0, 1) := by decide +kernel
theorem dX7_pushes_36 : decode cX7_pushes 36 = .ok (.getfield 55, 3) := by decide +kernel
theorem dX7_pushes_39 : decode cX7_pushes 39 = .ok (.bipush 119, 2) := by decide +kernel
theorem dX7_pushes_41 : decode cX7_pushes 41 = .ok (.aload_n 0, 1) := by decide +kernel
theorem dX7_pushes_42 : decode cX7_pushes 42 = .ok (.iload_n 1, 1) := by decide +kernel
theorem dX7_pushes_43 : decode cX7_pushes 43 = .ok (.iconst 1, 1) := by decide +kernel
theorem dX7_pushes_44 : decode cX7_pushes 44 = .ok (.invokevirtual 75, 3) := by decide +kernel
theorem dX7_pushes_47 : decode cX7_pushes 47 = .ok (.iastore, 1) := by decide +kernel
theorem dX7_pushes_48 : decode cX7_pushes 48 = .ok (.aload_n 0, 1) := by decide +kernel
theorem dX7_pushes_49 : decode cX7_pushes 49 = .ok (.getfield 55, 3) := by decide +kernel
theorem dX7_pushes_52 : decode cX7_pushes 52 = .ok (.bipush 108, 2) := by decide +kernel
theorem dX7_pushes_54 : decode cX7_pushes 54 = .ok (.iload_n 2, 1) := by decide +kernel
theorem dX7_pushes_55 : decode cX7_pushes 55 = .ok (.iastore, 1) := by decide +kernel
theorem dX7_pushes_56 : decode cX7_pushes 56 = .ok (.aload_n 0, 1) := by decide +kernel
theorem dX7_pushes_57 : decode cX7_pushes 57 = .ok (.getfield 55, 3) := by decide +kernel
theorem dX7_pushes_60 : decode cX7_pushes 60 = .ok (.bipush 99, 2) := by decide +kernel
theorem dX7_pushes_62 : decode cX7_pushes 62 = .ok (.aload_n 0, 1) := by decide +kernel
theorem dX7_pushes_63 : decode cX7_pushes 63 = .ok (.iload_n 1, 1) := by decide +kernel
theorem dX7_pushes_64 : decode cX7_pushes 64 = .ok (.iconst 4, 1) := by decide +kernel
theorem dX7_pushes_65 : decode cX7_pushes 65 = .ok (.invokevirtual 75, 3) := by decide +kernel
theorem dX7_pushes_68 : decode cX7_pushes 68 = .ok (.iastore, 1) := by decide +kernel
theorem dX7_pushes_69 : decode cX7_pushes 69 = .ok (.aload_n 0, 1) := by decide +kernel
theorem dX7_pushes_70 : decode cX7_pushes 70 = .ok (.iload 4, 2) := by decide +kernel
theorem dX7_pushes_72 : decode cX7_pushes 72 = .ok (.invokevirtual 113, 3) := by decide +kernel
theorem dX7_pushes_75 : decode cX7_pushes 75 = .ok (.iconst 0, 1) := by decide +kernel
theorem dX7_pushes_76 : decode cX7_pushes 76 = .ok (.sipush 999, 3) := by decide +kernel
theorem dX7_pushes_79 : decode cX7_pushes 79 = .ok (.invokestatic 116, 3) := by decide +kernel
theorem dX7_pushes_82 : decode cX7_pushes 82 = .ok (.istore_n 3, 1) := by decide +kernel
theorem dX7_pushes_83 : decode cX7_pushes 83 = .ok (.aload_n 0, 1) := by decide +kernel
theorem dX7_pushes_84 : decode cX7_pushes 84 = .ok (.iload_n 1, 1) := by decide +kernel
theorem dX7_pushes_85 : decode cX7_pushes 85 = .ok (.iconst 0, 1) := by decide +kernel
theorem dX7_pushes_86 : decode cX7_pushes 86 = .ok (.invokevirtual 75, 3) := by decide +kernel
theorem dX7_pushes_89 : decode cX7_pushes 89 = .ok (.tableswitch 68 1 5 #[35, 39, 43, 60, 66], 35) := by decide +kernel
theorem dX7_pushes_124 : decode cX7_pushes 124 = .ok (.iload_n 3, 1) := by decide +kernel
theorem dX7_pushes_125 : decode cX7_pushes 125 = .ok (.iconst 2, 1) := by decide +kernel
theorem dX7_pushes_126 : decode cX7_pushes 126 = .ok (.idiv, 1) := by decide +kernel
theorem dX7_pushes_127 : decode cX7_pushes 127 = .ok (.ireturn, 1) := by decide +kernel
theorem dX7_pushes_128 : decode cX7_pushes 128 = .ok (.iload_n 3, 1) := by decide +kernel
theorem dX7_pushes_129 : decode cX7_pushes 129 = .ok (.iconst 4, 1) := by decide +kernel
theorem dX7_pushes_130 : decode cX7_pushes 130 = .ok (.iadd, 1) := by decide +kernel
theorem dX7_pushes_131 : decode cX7_pushes 131 = .ok (.ireturn, 1) := by decide +kernel
theorem dX7_pushes_132 : decode cX7_pushes 132 = .ok (.iload_n 3, 1) := by decide +kernel
theorem dX7_pushes_133 : decode cX7_pushes 133 = .ok (.iconst 2, 1) := by decide +kernel
theorem dX7_pushes_134 : decode cX7_pushes 134 = .ok (.idiv, 1) := by decide +kernel
theorem dX7_pushes_135 : decode cX7_pushes 135 = .ok (.iconst 5, 1) := by decide +kernel
theorem dX7_pushes_136 : decode cX7_pushes 136 = .ok (.if_icmp .le 11, 3) := by decide +kernel
theorem dX7_pushes_139 : decode cX7_pushes 139 = .ok (.iload_n 3, 1) := by decide +kernel
theorem dX7_pushes_140 : decode cX7_pushes 140 = .ok (.iconst 2, 1) := by decide +kernel
theorem dX7_pushes_141 : decode cX7_pushes 141 = .ok (.idiv, 1) := by decide +kernel
theorem dX7_pushes_142 : decode cX7_pushes 142 = .ok (.iconst 5, 1) := by decide +kernel
theorem dX7_pushes_143 : decode cX7_pushes 143 = .ok (.isub, 1) := by decide +kernel
theorem dX7_pushes_144 : decode cX7_pushes 144 = .ok (.goto 4, 3) := by decide +kernel
theorem dX7_pushes_147 : decode cX7_pushes 147 = .ok (.iconst 0, 1) := by decide +kernel
theorem dX7_pushes_148 : decode cX7_pushes 148 = .ok (.ireturn, 1) := by decide +kernel
theorem dX7_pushes_149 : decode cX7_pushes 149 = .ok (.iconst 2, 1) := by decide +kernel
theorem dX7_pushes_150 : decode cX7_pushes 150 = .ok (.iload_n 3, 1) := by decide +kernel
theorem dX7_pushes_151 : decode cX7_pushes 151 = .ok (.iconst 4, 1) := by decide +kernel
theorem dX7_pushes_152 : decode cX7_pushes 152 = .ok (.iadd, 1) := by decide +kernel
theorem dX7_pushes_153 : decode cX7_pushes 153 = .ok (.imul, 1) := by decide +kernel
theorem dX7_pushes_154 : decode cX7_pushes 154 = .ok (.ireturn, 1) := by decide +kernel
theorem dX7_pushes_155 : decode cX7_pushes 155 = .ok (.iconst 0, 1) := by decide +kernel
theorem dX7_pushes_156 : decode cX7_pushes 156 = .ok (.ireturn, 1) := by decide +kernel
theorem dX7_pushes_157 : decode cX7_pushes 157 = .ok (.iload_n 3, 1) := by decide +kernel
theorem dX7_pushes_158 : decode cX7_pushes 158 = .ok (.ireturn, 1) := by decide +kernel
theorem dX7_bears_0 : decode cX7_bears 0 = .ok (.aload_n 0, 1) := by decide +kernel
theorem dX7_bears_1 : decode cX7_bears 1 = .ok (.iload_n 1, 1) := by decide +kernel
theorem dX7_bears_2 : decode cX7_bears 2 = .ok (.iconst 3, 1) := by decide +kernel
theorem dX7_bears_3 : decode cX7_bears 3 = .ok (.invokevirtual 75, 3) := by decide +kernel
theorem dX7_bears_6 : decode cX7_bears 6 = .ok (.bipush 10, 2) := by decide +kernel
theorem dX7_bears_8 : decode cX7_bears 8 = .ok (.aload_n 0, 1) := by decide +kernel
theorem dX7_bears_9 : decode cX7_bears 9 = .ok (.iload_n 1, 1) := by decide +kernel
theorem dX7_bears_10 : decode cX7_bears 10 = .ok (.iconst 5, 1) := by decide +kernel
theorem dX7_bears_11 : decode cX7_bears 11 = .ok (.invokevirtual 75, 3) := by decide +kernel
theorem dX7_bears_14 : decode cX7_bears 14 = .ok (.imul, 1) := by decide +kernel
theorem dX7_bears_15 : decode cX7_bears 15 = .ok (.iadd, 1) := by decide +kernel
theorem dX7_bears_16 : decode cX7_bears 16 = .ok (.istore_n 2, 1) := by decide +kernel
theorem dX7_bears_17 : decode cX7_bears 17 = .ok (.aload_n 0, 1) := by decide +kernel
theorem dX7_bears_18 : decode cX7_bears 18 = .ok (.iload_n 1, 1) := by decide +kernel
theorem dX7_bears_19 : decode cX7_bears 19 = .ok (.iconst 0, 1) := by decide +kernel
theorem dX7_bears_20 : decode cX7_bears 20 = .ok (.invokevirtual 75, 3) := by decide +kernel
theorem dX7_bears_23 : decode cX7_bears 23 = .ok (.tableswitch 45 1 5 #[33, 37, 33, 37, 41], 33) := by decide +kernel
theorem dX7_bears_56 : decode cX7_bears 56 = .ok (.iload_n 2, 1) := by decide +kernel
theorem dX7_bears_57 : decode cX7_bears 57 = .ok (.iconst 5, 1) := by decide +kernel
theorem dX7_bears_58 : decode cX7_bears 58 = .ok (.iadd, 1) := by decide +kernel
theorem dX7_bears_59 : decode cX7_bears 59 = .ok (.ireturn, 1) := by decide +kernel
theorem dX7_bears_60 : decode cX7_bears 60 = .ok (.iconst 2, 1) := by decide +kernel
theorem dX7_bears_61 : decode cX7_bears 61 = .ok (.iload_n 2, 1) := by decide +kernel
theorem dX7_bears_62 : decode cX7_bears 62 = .ok (.imul, 1) := by decide +kernel
theorem dX7_bears_63 : decode cX7_bears 63 = .ok (.ireturn, 1) := by decide +kernel
theorem dX7_bears_64 : decode cX7_bears 64 = .ok (.sipush 999, 3) := by decide +kernel
theorem dX7_bears_67 : decode cX7_bears 67 = .ok (.ireturn, 1) := by decide +kernel
theorem dX7_bears_68 : decode cX7_bears 68 = .ok (.iload_n 2, 1) := by decide +kernel
theorem dX7_bears_69 : decode cX7_bears 69 = .ok (.ireturn, 1) := by decide +kernel
theorem dX7_worth_0 : decode cX7_worth 0 = .ok (.aload_n 0, 1) := by decide +kernel
theorem dX7_worth_1 : decode cX7_worth 1 = .ok (.iload_n 1, 1) := by decide +kernel
theorem dX7_worth_2 : decode cX7_worth 2 = .ok (.iconst 3, 1) := by decide +kernel
theorem dX7_worth_3 : decode cX7_worth 3 = .ok (.invokevirtual 75, 3) := by decide +kernel
theorem dX7_worth_6 : decode cX7_worth 6 = .ok (.istore_n 2, 1) := by decide +kernel
theorem dX7_worth_7 : decode cX7_worth 7 = .ok (.aload_n 0, 1) := by decide +kernel
theorem dX7_worth_8 : decode cX7_worth 8 = .ok (.iload_n 1, 1) := by decide +kernel
theorem dX7_worth_9 : decode cX7_worth 9 = .ok (.iconst 0, 1) := by decide +kernel
theorem dX7_worth_10 : decode cX7_worth 10 = .ok (.invokevirtual 75, 3) := by decide +kernel
theorem dX7_worth_13 : decode cX7_worth 13 = .ok (.tableswitch 60 1 5 #[35, 40, 45, 52, 57], 35) := by decide +kernel
theorem dX7_worth_48 : decode cX7_worth 48 = .ok (.iload_n 2, 1) := by decide +kernel
theorem dX7_worth_49 : decode cX7_worth 49 = .ok (.bipush 7, 2) := by decide +kernel
theorem dX7_worth_51 : decode cX7_worth 51 = .ok (.iadd, 1) := by decide +kernel
theorem dX7_worth_52 : decode cX7_worth 52 = .ok (.ireturn, 1) := by decide +kernel
theorem dX7_worth_53 : decode cX7_worth 53 = .ok (.bipush 99, 2) := by decide +kernel
theorem dX7_worth_55 : decode cX7_worth 55 = .ok (.iload_n 2, 1) := by decide +kernel
theorem dX7_worth_56 : decode cX7_worth 56 = .ok (.isub, 1) := by decide +kernel
theorem dX7_worth_57 : decode cX7_worth 57 = .ok (.ireturn, 1) := by decide +kernel
theorem dX7_worth_58 : decode cX7_worth 58 = .ok (.iconst 2, 1) := by decide +kernel
theorem dX7_worth_59 : decode cX7_worth 59 = .ok (.iload_n 2, 1) := by decide +kernel
theorem dX7_worth_60 : decode cX7_worth 60 = .ok (.bipush 7, 2) := by decide +kernel
theorem dX7_worth_62 : decode cX7_worth 62 = .ok (.iadd, 1) := by decide +kernel
theorem dX7_worth_63 : decode cX7_worth 63 = .ok (.imul, 1) := by decide +kernel
theorem dX7_worth_64 : decode cX7_worth 64 = .ok (.ireturn, 1) := by decide +kernel
theorem dX7_worth_65 : decode cX7_worth 65 = .ok (.bipush 94, 2) := by decide +kernel
theorem dX7_worth_67 : decode cX7_worth 67 = .ok (.iload_n 2, 1) := by decide +kernel
theorem dX7_worth_68 : decode cX7_worth 68 = .ok (.isub, 1) := by decide +kernel
theorem dX7_worth_69 : decode cX7_worth 69 = .ok (.ireturn, 1) := by decide +kernel
theorem dX7_worth_70 : decode cX7_worth 70 = .ok (.bipush 6, 2) := by decide +kernel
theorem dX7_worth_72 : decode cX7_worth 72 = .ok (.ireturn, 1) := by decide +kernel
theorem dX7_worth_73 : decode cX7_worth 73 = .ok (.iload_n 2, 1) := by decide +kernel
theorem dX7_worth_74 : decode cX7_worth 74 = .ok (.ireturn, 1) := by decide +kernel
theorem dX7_allStanding_0 : decode cX7_allStanding 0 = .ok (.iconst 0, 1) := by decide +kernel
theorem dX7_allStanding_1 : decode cX7_allStanding 1 = .ok (.istore_n 1, 1) := by decide +kernel
theorem dX7_allStanding_2 : decode cX7_allStanding 2 = .ok (.iconst 0, 1) := by decide +kernel
theorem dX7_allStanding_3 : decode cX7_allStanding 3 = .ok (.istore_n 2, 1) := by decide +kernel
theorem dX7_allStanding_4 : decode cX7_allStanding 4 = .ok (.iload_n 2, 1) := by decide +kernel
theorem dX7_allStanding_5 : decode cX7_allStanding 5 = .ok (.aload_n 0, 1) := by decide +kernel
theorem dX7_allStanding_6 : decode cX7_allStanding 6 = .ok (.getfield 7, 3) := by decide +kernel
theorem dX7_allStanding_9 : decode cX7_allStanding 9 = .ok (.iconst 0, 1) := by decide +kernel
theorem dX7_allStanding_10 : decode cX7_allStanding 10 = .ok (.iaload, 1) := by decide +kernel
theorem dX7_allStanding_11 : decode cX7_allStanding 11 = .ok (.if_icmp .ge 27, 3) := by decide +kernel
theorem dX7_allStanding_14 : decode cX7_allStanding 14 = .ok (.iload_n 1, 1) := by decide +kernel
theorem dX7_allStanding_15 : decode cX7_allStanding 15 = .ok (.aload_n 0, 1) := by decide +kernel
theorem dX7_allStanding_16 : decode cX7_allStanding 16 = .ok (.iload_n 2, 1) := by decide +kernel
theorem dX7_allStanding_17 : decode cX7_allStanding 17 = .ok (.invokevirtual 119, 3) := by decide +kernel
theorem dX7_allStanding_20 : decode cX7_allStanding 20 = .ok (.ifCond .eq 9, 3) := by decide +kernel
theorem dX7_allStanding_23 : decode cX7_allStanding 23 = .ok (.iconst 1, 1) := by decide +kernel
theorem dX7_allStanding_24 : decode cX7_allStanding 24 = .ok (.iload_n 2, 1) := by decide +kernel
theorem dX7_allStanding_25 : decode cX7_allStanding 25 = .ok (.ishl, 1) := by decide +kernel
theorem dX7_allStanding_26 : decode cX7_allStanding 26 = .ok (.goto 4, 3) := by decide +kernel
theorem dX7_allStanding_29 : decode cX7_allStanding 29 = .ok (.iconst 0, 1) := by decide +kernel
theorem dX7_allStanding_30 : decode cX7_allStanding 30 = .ok (.ior, 1) := by decide +kernel
theorem dX7_allStanding_31 : decode cX7_allStanding 31 = .ok (.istore_n 1, 1) := by decide +kernel
theorem dX7_allStanding_32 : decode cX7_allStanding 32 = .ok (.iinc 2 1, 3) := by decide +kernel
theorem dX7_allStanding_35 : decode cX7_allStanding 35 = .ok (.goto (-31), 3) := by decide +kernel
theorem dX7_allStanding_38 : decode cX7_allStanding 38 = .ok (.iload_n 1, 1) := by decide +kernel
theorem dX7_allStanding_39 : decode cX7_allStanding 39 = .ok (.ireturn, 1) := by decide +kernel
theorem dX7_nextOf_0 : decode cX7_nextOf 0 = .ok (.iload_n 1, 1) := by decide +kernel
theorem dX7_nextOf_1 : decode cX7_nextOf 1 = .ok (.iload_n 2, 1) := by decide +kernel
theorem dX7_nextOf_2 : decode cX7_nextOf 2 = .ok (.iadd, 1) := by decide +kernel
theorem dX7_nextOf_3 : decode cX7_nextOf 3 = .ok (.istore 4, 2) := by decide +kernel
theorem dX7_nextOf_5 : decode cX7_nextOf 5 = .ok (.iload 4, 2) := by decide +kernel
theorem dX7_nextOf_7 : decode cX7_nextOf 7 = .ok (.ifCond .lt 32, 3) := by decide +kernel
theorem dX7_nextOf_10 : decode cX7_nextOf 10 = .ok (.iload 4, 2) := by decide +kernel
theorem dX7_nextOf_12 : decode cX7_nextOf 12 = .ok (.aload_n 0, 1) := by decide +kernel
theorem dX7_nextOf_13 : decode cX7_nextOf 13 = .ok (.getfield 7, 3) := by decide +kernel
theorem dX7_nextOf_16 : decode cX7_nextOf 16 = .ok (.iconst 0, 1) := by decide +kernel
theorem dX7_nextOf_17 : decode cX7_nextOf 17 = .ok (.iaload, 1) := by decide +kernel
theorem dX7_nextOf_18 : decode cX7_nextOf 18 = .ok (.if_icmp .ge 21, 3) := by decide +kernel
theorem dX7_nextOf_21 : decode cX7_nextOf 21 = .ok (.iload_n 3, 1) := by decide +kernel
theorem dX7_nextOf_22 : decode cX7_nextOf 22 = .ok (.iload 4, 2) := by decide +kernel
theorem dX7_nextOf_24 : decode cX7_nextOf 24 = .ok (.ishr, 1) := by decide +kernel
theorem dX7_nextOf_25 : decode cX7_nextOf 25 = .ok (.iconst 1, 1) := by decide +kernel
theorem dX7_nextOf_26 : decode cX7_nextOf 26 = .ok (.iand, 1) := by decide +kernel
theorem dX7_nextOf_27 : decode cX7_nextOf 27 = .ok (.ifCond .ne 12, 3) := by decide +kernel
theorem dX7_nextOf_30 : decode cX7_nextOf 30 = .ok (.iload 4, 2) := by decide +kernel
theorem dX7_nextOf_32 : decode cX7_nextOf 32 = .ok (.iload_n 2, 1) := by decide +kernel
theorem dX7_nextOf_33 : decode cX7_nextOf 33 = .ok (.iadd, 1) := by decide +kernel
theorem dX7_nextOf_34 : decode cX7_nextOf 34 = .ok (.istore 4, 2) := by decide +kernel
theorem dX7_nextOf_36 : decode cX7_nextOf 36 = .ok (.goto (-31), 3) := by decide +kernel
theorem dX7_nextOf_39 : decode cX7_nextOf 39 = .ok (.iload 4, 2) := by decide +kernel
theorem dX7_nextOf_41 : decode cX7_nextOf 41 = .ok (.ifCond .lt 19, 3) := by decide +kernel
theorem dX7_nextOf_44 : decode cX7_nextOf 44 = .ok (.iload 4, 2) := by decide +kernel
theorem dX7_nextOf_46 : decode cX7_nextOf 46 = .ok (.aload_n 0, 1) := by decide +kernel
theorem dX7_nextOf_47 : decode cX7_nextOf 47 = .ok (.getfield 7, 3) := by decide +kernel
theorem dX7_nextOf_50 : decode cX7_nextOf 50 = .ok (.iconst 0, 1) := by decide +kernel
theorem dX7_nextOf_51 : decode cX7_nextOf 51 = .ok (.iaload, 1) := by decide +kernel
theorem dX7_nextOf_52 : decode cX7_nextOf 52 = .ok (.if_icmp .ge 8, 3) := by decide +kernel
theorem dX7_nextOf_55 : decode cX7_nextOf 55 = .ok (.iload 4, 2) := by decide +kernel
theorem dX7_nextOf_57 : decode cX7_nextOf 57 = .ok (.goto 4, 3) := by decide +kernel
theorem dX7_nextOf_60 : decode cX7_nextOf 60 = .ok (.iconst (-1), 1) := by decide +kernel
theorem dX7_nextOf_61 : decode cX7_nextOf 61 = .ok (.ireturn, 1) := by decide +kernel
theorem dX7_thrust_0 : decode cX7_thrust 0 = .ok (.aload_n 0, 1) := by decide +kernel
theorem dX7_thrust_1 : decode cX7_thrust 1 = .ok (.iload_n 1, 1) := by decide +kernel
theorem dX7_thrust_2 : decode cX7_thrust 2 = .ok (.invokevirtual 119, 3) := by decide +kernel
theorem dX7_thrust_5 : decode cX7_thrust 5 = .ok (.ifCond .ne 5, 3) := by decide +kernel
theorem dX7_thrust_8 : decode cX7_thrust 8 = .ok (.iconst 0, 1) := by decide +kernel
theorem dX7_thrust_9 : decode cX7_thrust 9 = .ok (.ireturn, 1) := by decide +kernel
theorem dX7_thrust_10 : decode cX7_thrust 10 = .ok (.aload_n 0, 1) := by decide +kernel
theorem dX7_thrust_11 : decode cX7_thrust 11 = .ok (.invokevirtual 123, 3) := by decide +kernel
theorem dX7_thrust_14 : decode cX7_thrust 14 = .ok (.istore_n 2, 1) := by decide +kernel
theorem dX7_thrust_15 : decode cX7_thrust 15 = .ok (.aload_n 0, 1) := by decide +kernel
theorem dX7_thrust_16 : decode cX7_thrust 16 = .ok (.iload_n 1, 1) := by decide +kernel
theorem dX7_thrust_17 : decode cX7_thrust 17 = .ok (.iconst (-1), 1) := by decide +kernel
theorem dX7_thrust_18 : decode cX7_thrust 18 = .ok (.iload_n 2, 1) := by decide +kernel
theorem dX7_thrust_19 : decode cX7_thrust 19 = .ok (.invokevirtual 127, 3) := by decide +kernel
theorem dX7_thrust_22 : decode cX7_thrust 22 = .ok (.istore_n 3, 1) := by decide +kernel
theorem dX7_thrust_23 : decode cX7_thrust 23 = .ok (.aload_n 0, 1) := by decide +kernel
theorem dX7_thrust_24 : decode cX7_thrust 24 = .ok (.iload_n 1, 1) := by decide +kernel
theorem dX7_thrust_25 : decode cX7_thrust 25 = .ok (.iconst 1, 1) := by decide +kernel
theorem dX7_thrust_26 : decode cX7_thrust 26 = .ok (.iload_n 2, 1) := by decide +kernel
theorem dX7_thrust_27 : decode cX7_thrust 27 = .ok (.invokevirtual 127, 3) := by decide +kernel
theorem dX7_thrust_30 : decode cX7_thrust 30 = .ok (.istore 4, 2) := by decide +kernel
theorem dX7_thrust_32 : decode cX7_thrust 32 = .ok (.aload_n 0, 1) := by decide +kernel
theorem dX7_thrust_33 : decode cX7_thrust 33 = .ok (.getfield 7, 3) := by decide +kernel
theorem dX7_thrust_36 : decode cX7_thrust 36 = .ok (.iconst 4, 1) := by decide +kernel
theorem dX7_thrust_37 : decode cX7_thrust 37 = .ok (.iaload, 1) := by decide +kernel
theorem dX7_thrust_38 : decode cX7_thrust 38 = .ok (.istore 5, 2) := by decide +kernel
theorem dX7_thrust_40 : decode cX7_thrust 40 = .ok (.iload 5, 2) := by decide +kernel
theorem dX7_thrust_42 : decode cX7_thrust 42 = .ok (.iload_n 3, 1) := by decide +kernel
theorem dX7_thrust_43 : decode cX7_thrust 43 = .ok (.ifCond .lt 20, 3) := by decide +kernel
theorem dX7_thrust_46 : decode cX7_thrust 46 = .ok (.aload_n 0, 1) := by decide +kernel
theorem dX7_thrust_47 : decode cX7_thrust 47 = .ok (.iload_n 3, 1) := by decide +kernel
theorem dX7_thrust_48 : decode cX7_thrust 48 = .ok (.iconst 2, 1) := by decide +kernel
theorem dX7_thrust_49 : decode cX7_thrust 49 = .ok (.invokevirtual 75, 3) := by decide +kernel
theorem dX7_thrust_52 : decode cX7_thrust 52 = .ok (.ifCond .le 11, 3) := by decide +kernel
theorem dX7_thrust_55 : decode cX7_thrust 55 = .ok (.aload_n 0, 1) := by decide +kernel
theorem dX7_thrust_56 : decode cX7_thrust 56 = .ok (.iload_n 3, 1) := by decide +kernel
theorem dX7_thrust_57 : decode cX7_thrust 57 = .ok (.invokevirtual 130, 3) := by decide +kernel
theorem dX7_thrust_60 : decode cX7_thrust 60 = .ok (.goto 4, 3) := by decide +kernel
theorem dX7_thrust_63 : decode cX7_thrust 63 = .ok (.iconst 0, 1) := by decide +kernel
theorem dX7_thrust_64 : decode cX7_thrust 64 = .ok (.iadd, 1) := by decide +kernel
theorem dX7_thrust_65 : decode cX7_thrust 65 = .ok (.istore 5, 2) := by decide +kernel
theorem dX7_thrust_67 : decode cX7_thrust 67 = .ok (.iload 5, 2) := by decide +kernel
theorem dX7_thrust_69 : decode cX7_thrust 69 = .ok (.iload 4, 2) := by decide +kernel
theorem dX7_thrust_71 : decode cX7_thrust 71 = .ok (.ifCond .lt 22, 3) := by decide +kernel
theorem dX7_thrust_74 : decode cX7_thrust 74 = .ok (.aload_n 0, 1) := by decide +kernel
theorem dX7_thrust_75 : decode cX7_thrust 75 = .ok (.iload 4, 2) := by decide +kernel
theorem dX7_thrust_77 : decode cX7_thrust 77 = .ok (.iconst 2, 1) := by decide +kernel
theorem dX7_thrust_78 : decode cX7_thrust 78 = .ok (.invokevirtual 75, 3) := by decide +kernel
theorem dX7_thrust_81 : decode cX7_thrust 81 = .ok (.ifCond .ge 12, 3) := by decide +kernel
theorem dX7_thrust_84 : decode cX7_thrust 84 = .ok (.aload_n 0, 1) := by decide +kernel
theorem dX7_thrust_85 : decode cX7_thrust 85 = .ok (.iload 4, 2) := by decide +kernel
theorem dX7_thrust_87 : decode cX7_thrust 87 = .ok (.invokevirtual 130, 3) := by decide +kernel
theorem dX7_thrust_90 : decode cX7_thrust 90 = .ok (.goto 4, 3) := by decide +kernel
theorem dX7_thrust_93 : decode cX7_thrust 93 = .ok (.iconst 0, 1) := by decide +kernel
theorem dX7_thrust_94 : decode cX7_thrust 94 = .ok (.isub, 1) := by decide +kernel
theorem dX7_thrust_95 : decode cX7_thrust 95 = .ok (.istore 5, 2) := by decide +kernel
theorem dX7_thrust_97 : decode cX7_thrust 97 = .ok (.iload 5, 2) := by decide +kernel
theorem dX7_thrust_99 : decode cX7_thrust 99 = .ok (.ireturn, 1) := by decide +kernel
theorem dX7_told_0 : decode cX7_told 0 = .ok (.aload_n 0, 1) := by decide +kernel
theorem dX7_told_1 : decode cX7_told 1 = .ok (.iload_n 1, 1) := by decide +kernel
theorem dX7_told_2 : decode cX7_told 2 = .ok (.invokevirtual 133, 3) := by decide +kernel
theorem dX7_told_5 : decode cX7_told 5 = .ok (.ifCond .ne 6, 3) := by decide +kernel
theorem dX7_told_8 : decode cX7_told 8 = .ok (.ldc 100, 2) := by decide +kernel
theorem dX7_told_10 : decode cX7_told 10 = .ok (.ireturn, 1) := by decide +kernel
theorem dX7_told_11 : decode cX7_told 11 = .ok (.iload_n 2, 1) := by decide +kernel
theorem dX7_told_12 : decode cX7_told 12 = .ok (.tableswitch 101 0 10 #[60, 60, 60, 60, 60, 60, 67, 77, 83, 89, 95], 60) := by decide +kernel
theorem dX7_told_72 : decode cX7_told 72 = .ok (.aload_n 0, 1) := by decide +kernel
theorem dX7_told_73 : decode cX7_told 73 = .ok (.iload_n 1, 1) := by decide +kernel
theorem dX7_told_74 : decode cX7_told 74 = .ok (.iload_n 2, 1) := by decide +kernel
theorem dX7_told_75 : decode cX7_told 75 = .ok (.invokevirtual 75, 3) := by decide +kernel
theorem dX7_told_78 : decode cX7_told 78 = .ok (.ireturn, 1) := by decide +kernel
theorem dX7_told_79 : decode cX7_told 79 = .ok (.iconst 1, 1) := by decide +kernel
theorem dX7_told_80 : decode cX7_told 80 = .ok (.aload_n 0, 1) := by decide +kernel
theorem dX7_told_81 : decode cX7_told 81 = .ok (.iload_n 1, 1) := by decide +kernel
theorem dX7_told_82 : decode cX7_told 82 = .ok (.bipush 6, 2) := by decide +kernel
theorem dX7_told_84 : decode cX7_told 84 = .ok (.invokevirtual 75, 3) := by decide +kernel
theorem dX7_told_87 : decode cX7_told 87 = .ok (.isub, 1) := by decide +kernel
theorem dX7_told_88 : decode cX7_told 88 = .ok (.ireturn, 1) := by decide +kernel
theorem dX7_told_89 : decode cX7_told 89 = .ok (.aload_n 0, 1) := by decide +kernel
theorem dX7_told_90 : decode cX7_told 90 = .ok (.iload_n 1, 1) := by decide +kernel
theorem dX7_told_91 : decode cX7_told 91 = .ok (.invokevirtual 130, 3) := by decide +kernel
theorem dX7_told_94 : decode cX7_told 94 = .ok (.ireturn, 1) := by decide +kernel
theorem dX7_told_95 : decode cX7_told 95 = .ok (.aload_n 0, 1) := by decide +kernel
theorem dX7_told_96 : decode cX7_told 96 = .ok (.iload_n 1, 1) := by decide +kernel
theorem dX7_told_97 : decode cX7_told 97 = .ok (.invokevirtual 136, 3) := by decide +kernel
theorem dX7_told_100 : decode cX7_told 100 = .ok (.ireturn, 1) := by decide +kernel
theorem dX7_told_101 : decode cX7_told 101 = .ok (.aload_n 0, 1) := by decide +kernel
theorem dX7_told_102 : decode cX7_told 102 = .ok (.iload_n 1, 1) := by decide +kernel
theorem dX7_told_103 : decode cX7_told 103 = .ok (.invokevirtual 139, 3) := by decide +kernel
theorem dX7_told_106 : decode cX7_told 106 = .ok (.ireturn, 1) := by decide +kernel
theorem dX7_told_107 : decode cX7_told 107 = .ok (.aload_n 0, 1) := by decide +kernel
theorem dX7_told_108 : decode cX7_told 108 = .ok (.iload_n 1, 1) := by decide +kernel
theorem dX7_told_109 : decode cX7_told 109 = .ok (.invokevirtual 142, 3) := by decide +kernel
theorem dX7_told_112 : decode cX7_told 112 = .ok (.ireturn, 1) := by decide +kernel
theorem dX7_told_113 : decode cX7_told 113 = .ok (.ldc 100, 2) := by decide +kernel
theorem dX7_told_115 : decode cX7_told 115 = .ok (.ireturn, 1) := by decide +kernel
theorem dX7_isOf_0 : decode cX7_isOf 0 = .ok (.iload_n 0, 1) := by decide +kernel
theorem dX7_isOf_1 : decode cX7_isOf 1 = .ok (.iload_n 1, 1) := by decide +kernel
theorem dX7_isOf_2 : decode cX7_isOf 2 = .ok (.if_icmp .eq 27, 3) := by decide +kernel
theorem dX7_isOf_5 : decode cX7_isOf 5 = .ok (.iload_n 1, 1) := by decide +kernel
theorem dX7_isOf_6 : decode cX7_isOf 6 = .ok (.ifCond .eq 23, 3) := by decide +kernel
theorem dX7_isOf_9 : decode cX7_isOf 9 = .ok (.iload_n 1, 1) := by decide +kernel
theorem dX7_isOf_10 : decode cX7_isOf 10 = .ok (.iconst 1, 1) := by decide +kernel
theorem dX7_isOf_11 : decode cX7_isOf 11 = .ok (.if_icmp .ne 8, 3) := by decide +kernel
theorem dX7_isOf_14 : decode cX7_isOf 14 = .ok (.iload_n 0, 1) := by decide +kernel
theorem dX7_isOf_15 : decode cX7_isOf 15 = .ok (.iconst 3, 1) := by decide +kernel
theorem dX7_isOf_16 : decode cX7_isOf 16 = .ok (.if_icmp .eq 13, 3) := by decide +kernel
theorem dX7_isOf_19 : decode cX7_isOf 19 = .ok (.iload_n 1, 1) := by decide +kernel
theorem dX7_isOf_20 : decode cX7_isOf 20 = .ok (.iconst 2, 1) := by decide +kernel
theorem dX7_isOf_21 : decode cX7_isOf 21 = .ok (.if_icmp .ne 12, 3) := by decide +kernel
theorem dX7_isOf_24 : decode cX7_isOf 24 = .ok (.iload_n 0, 1) := by decide +kernel
theorem dX7_isOf_25 : decode cX7_isOf 25 = .ok (.iconst 4, 1) := by decide +kernel
theorem dX7_isOf_26 : decode cX7_isOf 26 = .ok (.if_icmp .ne 7, 3) := by decide +kernel
theorem dX7_isOf_29 : decode cX7_isOf 29 = .ok (.iconst 1, 1) := by decide +kernel
theorem dX7_isOf_30 : decode cX7_isOf 30 = .ok (.goto 4, 3) := by decide +kernel
theorem dX7_isOf_33 : decode cX7_isOf 33 = .ok (.iconst 0, 1) := by decide +kernel
theorem dX7_isOf_34 : decode cX7_isOf 34 = .ok (.ireturn, 1) := by decide +kernel
theorem dX7_as_0 : decode cX7_as 0 = .ok (.aload_n 0, 1) := by decide +kernel
theorem dX7_as_1 : decode cX7_as 1 = .ok (.iload_n 1, 1) := by decide +kernel
theorem dX7_as_2 : decode cX7_as 2 = .ok (.invokevirtual 133, 3) := by decide +kernel
theorem dX7_as_5 : decode cX7_as 5 = .ok (.ifCond .eq 15, 3) := by decide +kernel
theorem dX7_as_8 : decode cX7_as 8 = .ok (.iload_n 2, 1) := by decide +kernel
theorem dX7_as_9 : decode cX7_as 9 = .ok (.i2l, 1) := by decide +kernel
theorem dX7_as_10 : decode cX7_as 10 = .ok (.lconst 0, 1) := by decide +kernel
theorem dX7_as_11 : decode cX7_as 11 = .ok (.ldc2_w 94, 3) := by decide +kernel
theorem dX7_as_14 : decode cX7_as 14 = .ok (.invokestatic 71, 3) := by decide +kernel
theorem dX7_as_17 : decode cX7_as 17 = .ok (.ifCond .ne 6, 3) := by decide +kernel
theorem dX7_as_20 : decode cX7_as 20 = .ok (.ldc 100, 2) := by decide +kernel
theorem dX7_as_22 : decode cX7_as 22 = .ok (.ireturn, 1) := by decide +kernel
theorem dX7_as_23 : decode cX7_as 23 = .ok (.aload_n 0, 1) := by decide +kernel
theorem dX7_as_24 : decode cX7_as 24 = .ok (.iload_n 1, 1) := by decide +kernel
theorem dX7_as_25 : decode cX7_as 25 = .ok (.iconst 0, 1) := by decide +kernel
theorem dX7_as_26 : decode cX7_as 26 = .ok (.invokevirtual 75, 3) := by decide +kernel
theorem dX7_as_29 : decode cX7_as 29 = .ok (.iload_n 2, 1) := by decide +kernel
theorem dX7_as_30 : decode cX7_as 30 = .ok (.invokestatic 145, 3) := by decide +kernel
theorem dX7_as_33 : decode cX7_as 33 = .ok (.ifCond .eq 12, 3) := by decide +kernel
theorem dX7_as_36 : decode cX7_as 36 = .ok (.aload_n 0, 1) := by decide +kernel
theorem dX7_as_37 : decode cX7_as 37 = .ok (.iload_n 1, 1) := by decide +kernel
theorem dX7_as_38 : decode cX7_as 38 = .ok (.iconst 3, 1) := by decide +kernel
theorem dX7_as_39 : decode cX7_as 39 = .ok (.invokevirtual 75, 3) := by decide +kernel
theorem dX7_as_42 : decode cX7_as 42 = .ok (.goto 5, 3) := by decide +kernel
theorem dX7_as_45 : decode cX7_as 45 = .ok (.ldc 148, 2) := by decide +kernel
theorem dX7_as_47 : decode cX7_as 47 = .ok (.ireturn, 1) := by decide +kernel
theorem dX7_turns_0 : decode cX7_turns 0 = .ok (.aload_n 0, 1) := by decide +kernel
theorem dX7_turns_1 : decode cX7_turns 1 = .ok (.iload_n 1, 1) := by decide +kernel
theorem dX7_turns_2 : decode cX7_turns 2 = .ok (.invokevirtual 133, 3) := by decide +kernel
theorem dX7_turns_5 : decode cX7_turns 5 = .ok (.ifCond .eq 30, 3) := by decide +kernel
theorem dX7_turns_8 : decode cX7_turns 8 = .ok (.iload_n 2, 1) := by decide +kernel
theorem dX7_turns_9 : decode cX7_turns 9 = .ok (.i2l, 1) := by decide +kernel
theorem dX7_turns_10 : decode cX7_turns 10 = .ok (.lconst 0, 1) := by decide +kernel
theorem dX7_turns_11 : decode cX7_turns 11 = .ok (.ldc2_w 94, 3) := by decide +kernel
theorem dX7_turns_14 : decode cX7_turns 14 = .ok (.invokestatic 71, 3) := by decide +kernel
theorem dX7_turns_17 : decode cX7_turns 17 = .ok (.ifCond .eq 18, 3) := by decide +kernel
theorem dX7_turns_20 : decode cX7_turns 20 = .ok (.aload_n 0, 1) := by decide +kernel
theorem dX7_turns_21 : decode cX7_turns 21 = .ok (.bipush 6, 2) := by decide +kernel
theorem dX7_turns_23 : decode cX7_turns 23 = .ok (.bipush 7, 2) := by decide +kernel
theorem dX7_turns_25 : decode cX7_turns 25 = .ok (.iload_n 1, 1) := by decide +kernel
theorem dX7_turns_26 : decode cX7_turns 26 = .ok (.imul, 1) := by decide +kernel
theorem dX7_turns_27 : decode cX7_turns 27 = .ok (.iadd, 1) := by decide +kernel
theorem dX7_turns_28 : decode cX7_turns 28 = .ok (.iload_n 2, 1) := by decide +kernel
theorem dX7_turns_29 : decode cX7_turns 29 = .ok (.invokevirtual 149, 3) := by decide +kernel
theorem dX7_turns_32 : decode cX7_turns 32 = .ok (.goto 5, 3) := by decide +kernel
theorem dX7_turns_35 : decode cX7_turns 35 = .ok (.ldc 100, 2) := by decide +kernel
theorem dX7_turns_37 : decode cX7_turns 37 = .ok (.ireturn, 1) := by decide +kernel
theorem dX7_set_0 : decode cX7_set 0 = .ok (.aload_n 0, 1) := by decide +kernel
theorem dX7_set_1 : decode cX7_set 1 = .ok (.iload_n 1, 1) := by decide +kernel
theorem dX7_set_2 : decode cX7_set 2 = .ok (.invokevirtual 133, 3) := by decide +kernel
theorem dX7_set_5 : decode cX7_set 5 = .ok (.ifCond .eq 28, 3) := by decide +kernel
theorem dX7_set_8 : decode cX7_set 8 = .ok (.iload_n 2, 1) := by decide +kernel
theorem dX7_set_9 : decode cX7_set 9 = .ok (.iload_n 3, 1) := by decide +kernel
theorem dX7_set_10 : decode cX7_set 10 = .ok (.invokestatic 96, 3) := by decide +kernel
theorem dX7_set_13 : decode cX7_set 13 = .ok (.ifCond .eq 20, 3) := by decide +kernel
theorem dX7_set_16 : decode cX7_set 16 = .ok (.aload_n 0, 1) := by decide +kernel
theorem dX7_set_17 : decode cX7_set 17 = .ok (.bipush 6, 2) := by decide +kernel
theorem dX7_set_19 : decode cX7_set 19 = .ok (.bipush 7, 2) := by decide +kernel
theorem dX7_set_21 : decode cX7_set 21 = .ok (.iload_n 1, 1) := by decide +kernel
theorem dX7_set_22 : decode cX7_set 22 = .ok (.imul, 1) := by decide +kernel
theorem dX7_set_23 : decode cX7_set 23 = .ok (.iadd, 1) := by decide +kernel
theorem dX7_set_24 : decode cX7_set 24 = .ok (.iload_n 2, 1) := by decide +kernel
theorem dX7_set_25 : decode cX7_set 25 = .ok (.iadd, 1) := by decide +kernel
theorem dX7_set_26 : decode cX7_set 26 = .ok (.iload_n 3, 1) := by decide +kernel
theorem dX7_set_27 : decode cX7_set 27 = .ok (.invokevirtual 149, 3) := by decide +kernel
theorem dX7_set_30 : decode cX7_set 30 = .ok (.goto 5, 3) := by decide +kernel
theorem dX7_set_33 : decode cX7_set 33 = .ok (.ldc 100, 2) := by decide +kernel
theorem dX7_set_35 : decode cX7_set 35 = .ok (.ireturn, 1) := by decide +kernel
theorem dX7_falls_0 : decode cX7_falls 0 = .ok (.aload_n 0, 1) := by decide +kernel
theorem dX7_falls_1 : decode cX7_falls 1 = .ok (.iload_n 1, 1) := by decide +kernel
theorem dX7_falls_2 : decode cX7_falls 2 = .ok (.bipush 6, 2) := by decide +kernel
theorem dX7_falls_4 : decode cX7_falls 4 = .ok (.iconst 1, 1) := by decide +kernel
theorem dX7_falls_5 : decode cX7_falls 5 = .ok (.invokevirtual 80, 3) := by decide +kernel
theorem dX7_falls_8 : decode cX7_falls 8 = .ok (.aload_n 0, 1) := by decide +kernel
theorem dX7_falls_9 : decode cX7_falls 9 = .ok (.iload_n 1, 1) := by decide +kernel
theorem dX7_falls_10 : decode cX7_falls 10 = .ok (.iconst 5, 1) := by decide +kernel
theorem dX7_falls_11 : decode cX7_falls 11 = .ok (.iconst 0, 1) := by decide +kernel
theorem dX7_falls_12 : decode cX7_falls 12 = .ok (.invokevirtual 80, 3) := by decide +kernel
theorem dX7_falls_15 : decode cX7_falls 15 = .ok (.return_, 1) := by decide +kernel
theorem dX7_fells_0 : decode cX7_fells 0 = .ok (.aload_n 0, 1) := by decide +kernel
theorem dX7_fells_1 : decode cX7_fells 1 = .ok (.iload_n 1, 1) := by decide +kernel
theorem dX7_fells_2 : decode cX7_fells 2 = .ok (.invokevirtual 133, 3) := by decide +kernel
theorem dX7_fells_5 : decode cX7_fells 5 = .ok (.ifCond .ne 6, 3) := by decide +kernel
theorem dX7_fells_8 : decode cX7_fells 8 = .ok (.ldc 100, 2) := by decide +kernel
theorem dX7_fells_10 : decode cX7_fells 10 = .ok (.ireturn, 1) := by decide +kernel
theorem dX7_fells_11 : decode cX7_fells 11 = .ok (.aload_n 0, 1) := by decide +kernel
theorem dX7_fells_12 : decode cX7_fells 12 = .ok (.iload_n 1, 1) := by decide +kernel
theorem dX7_fells_13 : decode cX7_fells 13 = .ok (.invokevirtual 119, 3) := by decide +kernel
theorem dX7_fells_16 : decode cX7_fells 16 = .ok (.ifCond .ne 6, 3) := by decide +kernel
theorem dX7_fells_19 : decode cX7_fells 19 = .ok (.ldc 152, 2) := by decide +kernel
theorem dX7_fells_21 : decode cX7_fells 21 = .ok (.ireturn, 1) := by decide +kernel
theorem dX7_fells_22 : decode cX7_fells 22 = .ok (.aload_n 0, 1) := by decide +kernel
theorem dX7_fells_23 : decode cX7_fells 23 = .ok (.iload_n 1, 1) := by decide +kernel
theorem dX7_fells_24 : decode cX7_fells 24 = .ok (.invokevirtual 153, 3) := by decide +kernel
theorem dX7_fells_27 : decode cX7_fells 27 = .ok (.aload_n 0, 1) := by decide +kernel
theorem dX7_fells_28 : decode cX7_fells 28 = .ok (.invokevirtual 123, 3) := by decide +kernel
theorem dX7_fells_31 : decode cX7_fells 31 = .ok (.invokestatic 157, 3) := by decide +kernel
theorem dX7_fells_34 : decode cX7_fells 34 = .ok (.ireturn, 1) := by decide +kernel
theorem dX7_raises_0 : decode cX7_raises 0 = .ok (.aload_n 0, 1) := by decide +kernel
theorem dX7_raises_1 : decode cX7_raises 1 = .ok (.iload_n 1, 1) := by decide +kernel
theorem dX7_raises_2 : decode cX7_raises 2 = .ok (.invokevirtual 133, 3) := by decide +kernel
theorem dX7_raises_5 : decode cX7_raises 5 = .ok (.ifCond .ne 6, 3) := by decide +kernel
theorem dX7_raises_8 : decode cX7_raises 8 = .ok (.ldc 100, 2) := by decide +kernel
theorem dX7_raises_10 : decode cX7_raises 10 = .ok (.ireturn, 1) := by decide +kernel
theorem dX7_raises_11 : decode cX7_raises 11 = .ok (.aload_n 0, 1) := by decide +kernel
theorem dX7_raises_12 : decode cX7_raises 12 = .ok (.iload_n 1, 1) := by decide +kernel
theorem dX7_raises_13 : decode cX7_raises 13 = .ok (.invokevirtual 119, 3) := by decide +kernel
theorem dX7_raises_16 : decode cX7_raises 16 = .ok (.ifCond .eq 6, 3) := by decide +kernel
theorem dX7_raises_19 : decode cX7_raises 19 = .ok (.ldc 152, 2) := by decide +kernel
theorem dX7_raises_21 : decode cX7_raises 21 = .ok (.ireturn, 1) := by decide +kernel
theorem dX7_raises_22 : decode cX7_raises 22 = .ok (.aload_n 0, 1) := by decide +kernel
theorem dX7_raises_23 : decode cX7_raises 23 = .ok (.iload_n 1, 1) := by decide +kernel
theorem dX7_raises_24 : decode cX7_raises 24 = .ok (.bipush 6, 2) := by decide +kernel
theorem dX7_raises_26 : decode cX7_raises 26 = .ok (.iconst 0, 1) := by decide +kernel
theorem dX7_raises_27 : decode cX7_raises 27 = .ok (.invokevirtual 80, 3) := by decide +kernel
theorem dX7_raises_30 : decode cX7_raises 30 = .ok (.aload_n 0, 1) := by decide +kernel
theorem dX7_raises_31 : decode cX7_raises 31 = .ok (.iload_n 1, 1) := by decide +kernel
theorem dX7_raises_32 : decode cX7_raises 32 = .ok (.iconst 2, 1) := by decide +kernel
theorem dX7_raises_33 : decode cX7_raises 33 = .ok (.iconst 0, 1) := by decide +kernel
theorem dX7_raises_34 : decode cX7_raises 34 = .ok (.invokevirtual 80, 3) := by decide +kernel
theorem dX7_raises_37 : decode cX7_raises 37 = .ok (.aload_n 0, 1) := by decide +kernel
theorem dX7_raises_38 : decode cX7_raises 38 = .ok (.iload_n 1, 1) := by decide +kernel
theorem dX7_raises_39 : decode cX7_raises 39 = .ok (.iconst 4, 1) := by decide +kernel
theorem dX7_raises_40 : decode cX7_raises 40 = .ok (.iconst 0, 1) := by decide +kernel
theorem dX7_raises_41 : decode cX7_raises 41 = .ok (.invokevirtual 80, 3) := by decide +kernel
theorem dX7_raises_44 : decode cX7_raises 44 = .ok (.aload_n 0, 1) := by decide +kernel
theorem dX7_raises_45 : decode cX7_raises 45 = .ok (.invokevirtual 123, 3) := by decide +kernel
theorem dX7_raises_48 : decode cX7_raises 48 = .ok (.invokestatic 157, 3) := by decide +kernel
theorem dX7_raises_51 : decode cX7_raises 51 = .ok (.ireturn, 1) := by decide +kernel
theorem dX7_snow_0 : decode cX7_snow 0 = .ok (.iload_n 1, 1) := by decide +kernel
theorem dX7_snow_1 : decode cX7_snow 1 = .ok (.i2l, 1) := by decide +kernel
theorem dX7_snow_2 : decode cX7_snow 2 = .ok (.ldc2_w 160, 3) := by decide +kernel
theorem dX7_snow_5 : decode cX7_snow 5 = .ok (.ldc2_w 162, 3) := by decide +kernel
theorem dX7_snow_8 : decode cX7_snow 8 = .ok (.invokestatic 71, 3) := by decide +kernel
theorem dX7_snow_11 : decode cX7_snow 11 = .ok (.ifCond .eq 12, 3) := by decide +kernel
theorem dX7_snow_14 : decode cX7_snow 14 = .ok (.aload_n 0, 1) := by decide +kernel
theorem dX7_snow_15 : decode cX7_snow 15 = .ok (.iconst 4, 1) := by decide +kernel
theorem dX7_snow_16 : decode cX7_snow 16 = .ok (.iload_n 1, 1) := by decide +kernel
theorem dX7_snow_17 : decode cX7_snow 17 = .ok (.invokevirtual 149, 3) := by decide +kernel
theorem dX7_snow_20 : decode cX7_snow 20 = .ok (.goto 5, 3) := by decide +kernel
theorem dX7_snow_23 : decode cX7_snow 23 = .ok (.ldc 100, 2) := by decide +kernel
theorem dX7_snow_25 : decode cX7_snow 25 = .ok (.ireturn, 1) := by decide +kernel
theorem dX7_deal_0 : decode cX7_deal 0 = .ok (.iload_n 1, 1) := by decide +kernel
theorem dX7_deal_1 : decode cX7_deal 1 = .ok (.i2l, 1) := by decide +kernel
theorem dX7_deal_2 : decode cX7_deal 2 = .ok (.lconst 1, 1) := by decide +kernel
theorem dX7_deal_3 : decode cX7_deal 3 = .ok (.ldc2_w 92, 3) := by decide +kernel
theorem dX7_deal_6 : decode cX7_deal 6 = .ok (.invokestatic 71, 3) := by decide +kernel
theorem dX7_deal_9 : decode cX7_deal 9 = .ok (.ifCond .ne 6, 3) := by decide +kernel
theorem dX7_deal_12 : decode cX7_deal 12 = .ok (.ldc 100, 2) := by decide +kernel
theorem dX7_deal_14 : decode cX7_deal 14 = .ok (.ireturn, 1) := by decide +kernel
theorem dX7_deal_15 : decode cX7_deal 15 = .ok (.iconst 0, 1) := by decide +kernel
theorem dX7_deal_16 : decode cX7_deal 16 = .ok (.istore_n 2, 1) := by decide +kernel
theorem dX7_deal_17 : decode cX7_deal 17 = .ok (.iload_n 2, 1) := by decide +kernel
theorem dX7_deal_18 : decode cX7_deal 18 = .ok (.iload_n 1, 1) := by decide +kernel
theorem dX7_deal_19 : decode cX7_deal 19 = .ok (.if_icmp .ge 67, 3) := by decide +kernel
theorem dX7_deal_22 : decode cX7_deal 22 = .ok (.aload_n 0, 1) := by decide +kernel
theorem dX7_deal_23 : decode cX7_deal 23 = .ok (.getfield 7, 3) := by decide +kernel
theorem dX7_deal_26 : decode cX7_deal 26 = .ok (.iconst 0, 1) := by decide +kernel
theorem dX7_deal_27 : decode cX7_deal 27 = .ok (.iaload, 1) := by decide +kernel
theorem dX7_deal_28 : decode cX7_deal 28 = .ok (.bipush 9, 2) := by decide +kernel
theorem dX7_deal_30 : decode cX7_deal 30 = .ok (.if_icmp .ge 56, 3) := by decide +kernel
theorem dX7_deal_33 : decode cX7_deal 33 = .ok (.aload_n 0, 1) := by decide +kernel
theorem dX7_deal_34 : decode cX7_deal 34 = .ok (.invokevirtual 164, 3) := by decide +kernel
theorem dX7_deal_37 : decode cX7_deal 37 = .ok (.bipush 6, 2) := by decide +kernel
theorem dX7_deal_39 : decode cX7_deal 39 = .ok (.irem, 1) := by decide +kernel
theorem dX7_deal_40 : decode cX7_deal 40 = .ok (.istore_n 3, 1) := by decide +kernel
theorem dX7_deal_41 : decode cX7_deal 41 = .ok (.iconst 1, 1) := by decide +kernel
theorem dX7_deal_42 : decode cX7_deal 42 = .ok (.aload_n 0, 1) := by decide +kernel
theorem dX7_deal_43 : decode cX7_deal 43 = .ok (.invokevirtual 164, 3) := by decide +kernel
theorem dX7_deal_46 : decode cX7_deal 46 = .ok (.bipush 60, 2) := by decide +kernel
theorem dX7_deal_48 : decode cX7_deal 48 = .ok (.irem, 1) := by decide +kernel
theorem dX7_deal_49 : decode cX7_deal 49 = .ok (.iadd, 1) := by decide +kernel
theorem dX7_deal_50 : decode cX7_deal 50 = .ok (.istore 4, 2) := by decide +kernel
theorem dX7_deal_52 : decode cX7_deal 52 = .ok (.aload_n 0, 1) := by decide +kernel
theorem dX7_deal_53 : decode cX7_deal 53 = .ok (.invokevirtual 164, 3) := by decide +kernel
theorem dX7_deal_56 : decode cX7_deal 56 = .ok (.bipush 41, 2) := by decide +kernel
theorem dX7_deal_58 : decode cX7_deal 58 = .ok (.irem, 1) := by decide +kernel
theorem dX7_deal_59 : decode cX7_deal 59 = .ok (.bipush 20, 2) := by decide +kernel
theorem dX7_deal_61 : decode cX7_deal 61 = .ok (.isub, 1) := by decide +kernel
theorem dX7_deal_62 : decode cX7_deal 62 = .ok (.istore 5, 2) := by decide +kernel
theorem dX7_deal_64 : decode cX7_deal 64 = .ok (.aload_n 0, 1) := by decide +kernel
theorem dX7_deal_65 : decode cX7_deal 65 = .ok (.iload_n 3, 1) := by decide +kernel
theorem dX7_deal_66 : decode cX7_deal 66 = .ok (.iload 4, 2) := by decide +kernel
theorem dX7_deal_68 : decode cX7_deal 68 = .ok (.iload 5, 2) := by decide +kernel
theorem dX7_deal_70 : decode cX7_deal 70 = .ok (.aload_n 0, 1) := by decide +kernel
theorem dX7_deal_71 : decode cX7_deal 71 = .ok (.invokevirtual 164, 3) := by decide +kernel
theorem dX7_deal_74 : decode cX7_deal 74 = .ok (.bipush 60, 2) := by decide +kernel
theorem dX7_deal_76 : decode cX7_deal 76 = .ok (.irem, 1) := by decide +kernel
theorem dX7_deal_77 : decode cX7_deal 77 = .ok (.invokevirtual 102, 3) := by decide +kernel
theorem dX7_deal_80 : decode cX7_deal 80 = .ok (.iinc 2 1, 3) := by decide +kernel
theorem dX7_deal_83 : decode cX7_deal 83 = .ok (.goto (-66), 3) := by decide +kernel
theorem dX7_deal_86 : decode cX7_deal 86 = .ok (.iload_n 2, 1) := by decide +kernel
theorem dX7_deal_87 : decode cX7_deal 87 = .ok (.ireturn, 1) := by decide +kernel
theorem dX7_seed_0 : decode cX7_seed 0 = .ok (.aload_n 0, 1) := by decide +kernel
theorem dX7_seed_1 : decode cX7_seed 1 = .ok (.iconst 5, 1) := by decide +kernel
theorem dX7_seed_2 : decode cX7_seed 2 = .ok (.iload_n 1, 1) := by decide +kernel
theorem dX7_seed_3 : decode cX7_seed 3 = .ok (.invokevirtual 149, 3) := by decide +kernel
theorem dX7_seed_6 : decode cX7_seed 6 = .ok (.ireturn, 1) := by decide +kernel
theorem dX7_fallsWith_0 : decode cX7_fallsWith 0 = .ok (.aload_n 0, 1) := by decide +kernel
theorem dX7_fallsWith_1 : decode cX7_fallsWith 1 = .ok (.iload_n 1, 1) := by decide +kernel
theorem dX7_fallsWith_2 : decode cX7_fallsWith 2 = .ok (.iconst 2, 1) := by decide +kernel
theorem dX7_fallsWith_3 : decode cX7_fallsWith 3 = .ok (.invokevirtual 75, 3) := by decide +kernel
theorem dX7_fallsWith_6 : decode cX7_fallsWith 6 = .ok (.istore_n 3, 1) := by decide +kernel
theorem dX7_fallsWith_7 : decode cX7_fallsWith 7 = .ok (.iload_n 3, 1) := by decide +kernel
theorem dX7_fallsWith_8 : decode cX7_fallsWith 8 = .ok (.iconst 0, 1) := by decide +kernel
theorem dX7_fallsWith_9 : decode cX7_fallsWith 9 = .ok (.invokestatic 106, 3) := by decide +kernel
theorem dX7_fallsWith_12 : decode cX7_fallsWith 12 = .ok (.bipush 20, 2) := by decide +kernel
theorem dX7_fallsWith_14 : decode cX7_fallsWith 14 = .ok (.if_icmp .ge 5, 3) := by decide +kernel
theorem dX7_fallsWith_17 : decode cX7_fallsWith 17 = .ok (.iconst 0, 1) := by decide +kernel
theorem dX7_fallsWith_18 : decode cX7_fallsWith 18 = .ok (.ireturn, 1) := by decide +kernel
theorem dX7_fallsWith_19 : decode cX7_fallsWith 19 = .ok (.aload_n 0, 1) := by decide +kernel
theorem dX7_fallsWith_20 : decode cX7_fallsWith 20 = .ok (.iload_n 1, 1) := by decide +kernel
theorem dX7_fallsWith_21 : decode cX7_fallsWith 21 = .ok (.iload_n 3, 1) := by decide +kernel
theorem dX7_fallsWith_22 : decode cX7_fallsWith 22 = .ok (.ifCond .le 7, 3) := by decide +kernel
theorem dX7_fallsWith_25 : decode cX7_fallsWith 25 = .ok (.iconst 1, 1) := by decide +kernel
theorem dX7_fallsWith_26 : decode cX7_fallsWith 26 = .ok (.goto 4, 3) := by decide +kernel
theorem dX7_fallsWith_29 : decode cX7_fallsWith 29 = .ok (.iconst (-1), 1) := by decide +kernel
theorem dX7_fallsWith_30 : decode cX7_fallsWith 30 = .ok (.iload_n 2, 1) := by decide +kernel
theorem dX7_fallsWith_31 : decode cX7_fallsWith 31 = .ok (.invokevirtual 127, 3) := by decide +kernel
theorem dX7_fallsWith_34 : decode cX7_fallsWith 34 = .ok (.istore 4, 2) := by decide +kernel
theorem dX7_fallsWith_36 : decode cX7_fallsWith 36 = .ok (.iload 4, 2) := by decide +kernel
theorem dX7_fallsWith_38 : decode cX7_fallsWith 38 = .ok (.ifCond .lt 16, 3) := by decide +kernel
theorem dX7_fallsWith_41 : decode cX7_fallsWith 41 = .ok (.aload_n 0, 1) := by decide +kernel
theorem dX7_fallsWith_42 : decode cX7_fallsWith 42 = .ok (.iload 4, 2) := by decide +kernel
theorem dX7_fallsWith_44 : decode cX7_fallsWith 44 = .ok (.invokevirtual 119, 3) := by decide +kernel
theorem dX7_fallsWith_47 : decode cX7_fallsWith 47 = .ok (.ifCond .ne 7, 3) := by decide +kernel
theorem dX7_fallsWith_50 : decode cX7_fallsWith 50 = .ok (.iconst 1, 1) := by decide +kernel
theorem dX7_fallsWith_51 : decode cX7_fallsWith 51 = .ok (.goto 4, 3) := by decide +kernel
theorem dX7_fallsWith_54 : decode cX7_fallsWith 54 = .ok (.iconst 0, 1) := by decide +kernel
theorem dX7_fallsWith_55 : decode cX7_fallsWith 55 = .ok (.ireturn, 1) := by decide +kernel
theorem dX7_goesOn_0 : decode cX7_goesOn 0 = .ok (.aload_n 0, 1) := by decide +kernel
theorem dX7_goesOn_1 : decode cX7_goesOn 1 = .ok (.invokevirtual 123, 3) := by decide +kernel
theorem dX7_goesOn_4 : decode cX7_goesOn 4 = .ok (.istore_n 1, 1) := by decide +kernel
theorem dX7_goesOn_5 : decode cX7_goesOn 5 = .ok (.iconst 0, 1) := by decide +kernel
theorem dX7_goesOn_6 : decode cX7_goesOn 6 = .ok (.istore_n 2, 1) := by decide +kernel
theorem dX7_goesOn_7 : decode cX7_goesOn 7 = .ok (.iconst 0, 1) := by decide +kernel
theorem dX7_goesOn_8 : decode cX7_goesOn 8 = .ok (.istore_n 3, 1) := by decide +kernel
theorem dX7_goesOn_9 : decode cX7_goesOn 9 = .ok (.iload_n 3, 1) := by decide +kernel
theorem dX7_goesOn_10 : decode cX7_goesOn 10 = .ok (.aload_n 0, 1) := by decide +kernel
theorem dX7_goesOn_11 : decode cX7_goesOn 11 = .ok (.getfield 7, 3) := by decide +kernel
theorem dX7_goesOn_14 : decode cX7_goesOn 14 = .ok (.iconst 0, 1) := by decide +kernel
theorem dX7_goesOn_15 : decode cX7_goesOn 15 = .ok (.iaload, 1) := by decide +kernel
theorem dX7_goesOn_16 : decode cX7_goesOn 16 = .ok (.if_icmp .ge 31, 3) := by decide +kernel
theorem dX7_goesOn_19 : decode cX7_goesOn 19 = .ok (.aload_n 0, 1) := by decide +kernel
theorem dX7_goesOn_20 : decode cX7_goesOn 20 = .ok (.getfield 43, 3) := by decide +kernel
theorem dX7_goesOn_23 : decode cX7_goesOn 23 = .ok (.iload_n 3, 1) := by decide +kernel
theorem dX7_goesOn_24 : decode cX7_goesOn 24 = .ok (.aload_n 0, 1) := by decide +kernel
theorem dX7_goesOn_25 : decode cX7_goesOn 25 = .ok (.iload_n 3, 1) := by decide +kernel
theorem dX7_goesOn_26 : decode cX7_goesOn 26 = .ok (.invokevirtual 139, 3) := by decide +kernel
theorem dX7_goesOn_29 : decode cX7_goesOn 29 = .ok (.iastore, 1) := by decide +kernel
theorem dX7_goesOn_30 : decode cX7_goesOn 30 = .ok (.aload_n 0, 1) := by decide +kernel
theorem dX7_goesOn_31 : decode cX7_goesOn 31 = .ok (.getfield 46, 3) := by decide +kernel
theorem dX7_goesOn_34 : decode cX7_goesOn 34 = .ok (.iload_n 3, 1) := by decide +kernel
theorem dX7_goesOn_35 : decode cX7_goesOn 35 = .ok (.aload_n 0, 1) := by decide +kernel
theorem dX7_goesOn_36 : decode cX7_goesOn 36 = .ok (.iload_n 3, 1) := by decide +kernel
theorem dX7_goesOn_37 : decode cX7_goesOn 37 = .ok (.invokevirtual 136, 3) := by decide +kernel
theorem dX7_goesOn_40 : decode cX7_goesOn 40 = .ok (.iastore, 1) := by decide +kernel
theorem dX7_goesOn_41 : decode cX7_goesOn 41 = .ok (.iinc 3 1, 3) := by decide +kernel
theorem dX7_goesOn_44 : decode cX7_goesOn 44 = .ok (.goto (-35), 3) := by decide +kernel
theorem dX7_goesOn_47 : decode cX7_goesOn 47 = .ok (.iconst 0, 1) := by decide +kernel
theorem dX7_goesOn_48 : decode cX7_goesOn 48 = .ok (.istore_n 3, 1) := by decide +kernel
theorem dX7_goesOn_49 : decode cX7_goesOn 49 = .ok (.iload_n 3, 1) := by decide +kernel
theorem dX7_goesOn_50 : decode cX7_goesOn 50 = .ok (.aload_n 0, 1) := by decide +kernel
theorem dX7_goesOn_51 : decode cX7_goesOn 51 = .ok (.getfield 7, 3) := by decide +kernel
theorem dX7_goesOn_54 : decode cX7_goesOn 54 = .ok (.iconst 0, 1) := by decide +kernel
theorem dX7_goesOn_55 : decode cX7_goesOn 55 = .ok (.iaload, 1) := by decide +kernel
theorem dX7_goesOn_56 : decode cX7_goesOn 56 = .ok (.if_icmp .ge 97, 3) := by decide +kernel
theorem dX7_goesOn_59 : decode cX7_goesOn 59 = .ok (.aload_n 0, 1) := by decide +kernel
theorem dX7_goesOn_60 : decode cX7_goesOn 60 = .ok (.getfield 43, 3) := by decide +kernel
theorem dX7_goesOn_63 : decode cX7_goesOn 63 = .ok (.iload_n 3, 1) := by decide +kernel
theorem dX7_goesOn_64 : decode cX7_goesOn 64 = .ok (.iaload, 1) := by decide +kernel
theorem dX7_goesOn_65 : decode cX7_goesOn 65 = .ok (.iconst 0, 1) := by decide +kernel
theorem dX7_goesOn_66 : decode cX7_goesOn 66 = .ok (.invokestatic 106, 3) := by decide +kernel
theorem dX7_goesOn_69 : decode cX7_goesOn 69 = .ok (.aload_n 0, 1) := by decide +kernel
theorem dX7_goesOn_70 : decode cX7_goesOn 70 = .ok (.getfield 46, 3) := by decide +kernel
theorem dX7_goesOn_73 : decode cX7_goesOn 73 = .ok (.iload_n 3, 1) := by decide +kernel
theorem dX7_goesOn_74 : decode cX7_goesOn 74 = .ok (.iaload, 1) := by decide +kernel
theorem dX7_goesOn_75 : decode cX7_goesOn 75 = .ok (.isub, 1) := by decide +kernel
theorem dX7_goesOn_76 : decode cX7_goesOn 76 = .ok (.istore 4, 2) := by decide +kernel
theorem dX7_goesOn_78 : decode cX7_goesOn 78 = .ok (.aload_n 0, 1) := by decide +kernel
theorem dX7_goesOn_79 : decode cX7_goesOn 79 = .ok (.iload_n 3, 1) := by decide +kernel
theorem dX7_goesOn_80 : decode cX7_goesOn 80 = .ok (.invokevirtual 119, 3) := by decide +kernel
theorem dX7_goesOn_83 : decode cX7_goesOn 83 = .ok (.ifCond .eq 64, 3) := by decide +kernel
theorem dX7_goesOn_86 : decode cX7_goesOn 86 = .ok (.iload 4, 2) := by decide +kernel
theorem dX7_goesOn_88 : decode cX7_goesOn 88 = .ok (.ifCond .le 59, 3) := by decide +kernel
theorem dX7_goesOn_91 : decode cX7_goesOn 91 = .ok (.aload_n 0, 1) := by decide +kernel
theorem dX7_goesOn_92 : decode cX7_goesOn 92 = .ok (.iload_n 3, 1) := by decide +kernel
theorem dX7_goesOn_93 : decode cX7_goesOn 93 = .ok (.iconst 4, 1) := by decide +kernel
theorem dX7_goesOn_94 : decode cX7_goesOn 94 = .ok (.aload_n 0, 1) := by decide +kernel
theorem dX7_goesOn_95 : decode cX7_goesOn 95 = .ok (.iload_n 3, 1) := by decide +kernel
theorem dX7_goesOn_96 : decode cX7_goesOn 96 = .ok (.iconst 4, 1) := by decide +kernel
theorem dX7_goesOn_97 : decode cX7_goesOn 97 = .ok (.invokevirtual 75, 3) := by decide +kernel
theorem dX7_goesOn_100 : decode cX7_goesOn 100 = .ok (.iload 4, 2) := by decide +kernel
theorem dX7_goesOn_102 : decode cX7_goesOn 102 = .ok (.iadd, 1) := by decide +kernel
theorem dX7_goesOn_103 : decode cX7_goesOn 103 = .ok (.iconst 0, 1) := by decide +kernel
theorem dX7_goesOn_104 : decode cX7_goesOn 104 = .ok (.sipush 999, 3) := by decide +kernel
theorem dX7_goesOn_107 : decode cX7_goesOn 107 = .ok (.invokestatic 116, 3) := by decide +kernel
theorem dX7_goesOn_110 : decode cX7_goesOn 110 = .ok (.invokevirtual 80, 3) := by decide +kernel
theorem dX7_goesOn_113 : decode cX7_goesOn 113 = .ok (.aload_n 0, 1) := by decide +kernel
theorem dX7_goesOn_114 : decode cX7_goesOn 114 = .ok (.iload_n 3, 1) := by decide +kernel
theorem dX7_goesOn_115 : decode cX7_goesOn 115 = .ok (.iconst 2, 1) := by decide +kernel
theorem dX7_goesOn_116 : decode cX7_goesOn 116 = .ok (.aload_n 0, 1) := by decide +kernel
theorem dX7_goesOn_117 : decode cX7_goesOn 117 = .ok (.iload_n 3, 1) := by decide +kernel
theorem dX7_goesOn_118 : decode cX7_goesOn 118 = .ok (.iconst 2, 1) := by decide +kernel
theorem dX7_goesOn_119 : decode cX7_goesOn 119 = .ok (.invokevirtual 75, 3) := by decide +kernel
theorem dX7_goesOn_122 : decode cX7_goesOn 122 = .ok (.aload_n 0, 1) := by decide +kernel
theorem dX7_goesOn_123 : decode cX7_goesOn 123 = .ok (.getfield 43, 3) := by decide +kernel
theorem dX7_goesOn_126 : decode cX7_goesOn 126 = .ok (.iload_n 3, 1) := by decide +kernel
theorem dX7_goesOn_127 : decode cX7_goesOn 127 = .ok (.iaload, 1) := by decide +kernel
theorem dX7_goesOn_128 : decode cX7_goesOn 128 = .ok (.ifCond .le 7, 3) := by decide +kernel
theorem dX7_goesOn_131 : decode cX7_goesOn 131 = .ok (.iconst 1, 1) := by decide +kernel
theorem dX7_goesOn_132 : decode cX7_goesOn 132 = .ok (.goto 4, 3) := by decide +kernel
theorem dX7_goesOn_135 : decode cX7_goesOn 135 = .ok (.iconst (-1), 1) := by decide +kernel
theorem dX7_goesOn_136 : decode cX7_goesOn 136 = .ok (.iadd, 1) := by decide +kernel
theorem dX7_goesOn_137 : decode cX7_goesOn 137 = .ok (.bipush (-50), 2) := by decide +kernel
theorem dX7_goesOn_139 : decode cX7_goesOn 139 = .ok (.bipush 50, 2) := by decide +kernel
theorem dX7_goesOn_141 : decode cX7_goesOn 141 = .ok (.invokestatic 116, 3) := by decide +kernel
theorem dX7_goesOn_144 : decode cX7_goesOn 144 = .ok (.invokevirtual 80, 3) := by decide +kernel
theorem dX7_goesOn_147 : decode cX7_goesOn 147 = .ok (.iinc 3 1, 3) := by decide +kernel
theorem dX7_goesOn_150 : decode cX7_goesOn 150 = .ok (.goto (-101), 3) := by decide +kernel
theorem dX7_goesOn_153 : decode cX7_goesOn 153 = .ok (.iconst 0, 1) := by decide +kernel
theorem dX7_goesOn_154 : decode cX7_goesOn 154 = .ok (.istore_n 3, 1) := by decide +kernel
theorem dX7_goesOn_155 : decode cX7_goesOn 155 = .ok (.iload_n 3, 1) := by decide +kernel
theorem dX7_goesOn_156 : decode cX7_goesOn 156 = .ok (.aload_n 0, 1) := by decide +kernel
theorem dX7_goesOn_157 : decode cX7_goesOn 157 = .ok (.getfield 7, 3) := by decide +kernel
theorem dX7_goesOn_160 : decode cX7_goesOn 160 = .ok (.iconst 0, 1) := by decide +kernel
theorem dX7_goesOn_161 : decode cX7_goesOn 161 = .ok (.iaload, 1) := by decide +kernel
theorem dX7_goesOn_162 : decode cX7_goesOn 162 = .ok (.if_icmp .ge 33, 3) := by decide +kernel
theorem dX7_goesOn_165 : decode cX7_goesOn 165 = .ok (.aload_n 0, 1) := by decide +kernel
theorem dX7_goesOn_166 : decode cX7_goesOn 166 = .ok (.iload_n 3, 1) := by decide +kernel
theorem dX7_goesOn_167 : decode cX7_goesOn 167 = .ok (.invokevirtual 119, 3) := by decide +kernel
theorem dX7_goesOn_170 : decode cX7_goesOn 170 = .ok (.ifCond .eq 19, 3) := by decide +kernel
theorem dX7_goesOn_173 : decode cX7_goesOn 173 = .ok (.aload_n 0, 1) := by decide +kernel
theorem dX7_goesOn_174 : decode cX7_goesOn 174 = .ok (.iload_n 3, 1) := by decide +kernel
theorem dX7_goesOn_175 : decode cX7_goesOn 175 = .ok (.iconst 4, 1) := by decide +kernel
theorem dX7_goesOn_176 : decode cX7_goesOn 176 = .ok (.invokevirtual 75, 3) := by decide +kernel
theorem dX7_goesOn_179 : decode cX7_goesOn 179 = .ok (.bipush 100, 2) := by decide +kernel
theorem dX7_goesOn_181 : decode cX7_goesOn 181 = .ok (.if_icmp .lt 8, 3) := by decide +kernel
theorem dX7_goesOn_184 : decode cX7_goesOn 184 = .ok (.aload_n 0, 1) := by decide +kernel
theorem dX7_goesOn_185 : decode cX7_goesOn 185 = .ok (.iload_n 3, 1) := by decide +kernel
theorem dX7_goesOn_186 : decode cX7_goesOn 186 = .ok (.invokevirtual 153, 3) := by decide +kernel
theorem dX7_goesOn_189 : decode cX7_goesOn 189 = .ok (.iinc 3 1, 3) := by decide +kernel
theorem dX7_goesOn_192 : decode cX7_goesOn 192 = .ok (.goto (-37), 3) := by decide +kernel
theorem dX7_goesOn_195 : decode cX7_goesOn 195 = .ok (.iconst 1, 1) := by decide +kernel
theorem dX7_goesOn_196 : decode cX7_goesOn 196 = .ok (.istore_n 3, 1) := by decide +kernel
theorem dX7_goesOn_197 : decode cX7_goesOn 197 = .ok (.iload_n 3, 1) := by decide +kernel
theorem dX7_goesOn_198 : decode cX7_goesOn 198 = .ok (.ifCond .eq 55, 3) := by decide +kernel
theorem dX7_goesOn_201 : decode cX7_goesOn 201 = .ok (.iconst 0, 1) := by decide +kernel
theorem dX7_goesOn_202 : decode cX7_goesOn 202 = .ok (.istore_n 3, 1) := by decide +kernel
theorem dX7_goesOn_203 : decode cX7_goesOn 203 = .ok (.iconst 0, 1) := by decide +kernel
theorem dX7_goesOn_204 : decode cX7_goesOn 204 = .ok (.istore 4, 2) := by decide +kernel
theorem dX7_goesOn_206 : decode cX7_goesOn 206 = .ok (.iload 4, 2) := by decide +kernel
theorem dX7_goesOn_208 : decode cX7_goesOn 208 = .ok (.aload_n 0, 1) := by decide +kernel
theorem dX7_goesOn_209 : decode cX7_goesOn 209 = .ok (.getfield 7, 3) := by decide +kernel
theorem dX7_goesOn_212 : decode cX7_goesOn 212 = .ok (.iconst 0, 1) := by decide +kernel
theorem dX7_goesOn_213 : decode cX7_goesOn 213 = .ok (.iaload, 1) := by decide +kernel
theorem dX7_goesOn_214 : decode cX7_goesOn 214 = .ok (.if_icmp .ge 36, 3) := by decide +kernel
theorem dX7_goesOn_217 : decode cX7_goesOn 217 = .ok (.aload_n 0, 1) := by decide +kernel
theorem dX7_goesOn_218 : decode cX7_goesOn 218 = .ok (.iload 4, 2) := by decide +kernel
theorem dX7_goesOn_220 : decode cX7_goesOn 220 = .ok (.invokevirtual 119, 3) := by decide +kernel
theorem dX7_goesOn_223 : decode cX7_goesOn 223 = .ok (.ifCond .eq 21, 3) := by decide +kernel
theorem dX7_goesOn_226 : decode cX7_goesOn 226 = .ok (.aload_n 0, 1) := by decide +kernel
theorem dX7_goesOn_227 : decode cX7_goesOn 227 = .ok (.iload 4, 2) := by decide +kernel
theorem dX7_goesOn_229 : decode cX7_goesOn 229 = .ok (.iload_n 1, 1) := by decide +kernel
theorem dX7_goesOn_230 : decode cX7_goesOn 230 = .ok (.invokevirtual 167, 3) := by decide +kernel
theorem dX7_goesOn_233 : decode cX7_goesOn 233 = .ok (.ifCond .eq 11, 3) := by decide +kernel
theorem dX7_goesOn_236 : decode cX7_goesOn 236 = .ok (.aload_n 0, 1) := by decide +kernel
theorem dX7_goesOn_237 : decode cX7_goesOn 237 = .ok (.iload 4, 2) := by decide +kernel
theorem dX7_goesOn_239 : decode cX7_goesOn 239 = .ok (.invokevirtual 153, 3) := by decide +kernel
theorem dX7_goesOn_242 : decode cX7_goesOn 242 = .ok (.iconst 1, 1) := by decide +kernel
theorem dX7_goesOn_243 : decode cX7_goesOn 243 = .ok (.istore_n 3, 1) := by decide +kernel
theorem dX7_goesOn_244 : decode cX7_goesOn 244 = .ok (.iinc 4 1, 3) := by decide +kernel
theorem dX7_goesOn_247 : decode cX7_goesOn 247 = .ok (.goto (-41), 3) := by decide +kernel
theorem dX7_goesOn_250 : decode cX7_goesOn 250 = .ok (.goto (-53), 3) := by decide +kernel
theorem dX7_goesOn_253 : decode cX7_goesOn 253 = .ok (.iconst 0, 1) := by decide +kernel
theorem dX7_goesOn_254 : decode cX7_goesOn 254 = .ok (.istore 4, 2) := by decide +kernel
theorem dX7_goesOn_256 : decode cX7_goesOn 256 = .ok (.iload 4, 2) := by decide +kernel
theorem dX7_goesOn_258 : decode cX7_goesOn 258 = .ok (.aload_n 0, 1) := by decide +kernel
theorem dX7_goesOn_259 : decode cX7_goesOn 259 = .ok (.getfield 7, 3) := by decide +kernel
theorem dX7_goesOn_262 : decode cX7_goesOn 262 = .ok (.iconst 0, 1) := by decide +kernel
theorem dX7_goesOn_263 : decode cX7_goesOn 263 = .ok (.iaload, 1) := by decide +kernel
theorem dX7_goesOn_264 : decode cX7_goesOn 264 = .ok (.if_icmp .ge 19, 3) := by decide +kernel
theorem dX7_goesOn_267 : decode cX7_goesOn 267 = .ok (.iload_n 2, 1) := by decide +kernel
theorem dX7_goesOn_268 : decode cX7_goesOn 268 = .ok (.aload_n 0, 1) := by decide +kernel
theorem dX7_goesOn_269 : decode cX7_goesOn 269 = .ok (.iload 4, 2) := by decide +kernel
theorem dX7_goesOn_271 : decode cX7_goesOn 271 = .ok (.iconst 5, 1) := by decide +kernel
theorem dX7_goesOn_272 : decode cX7_goesOn 272 = .ok (.invokevirtual 75, 3) := by decide +kernel
theorem dX7_goesOn_275 : decode cX7_goesOn 275 = .ok (.iadd, 1) := by decide +kernel
theorem dX7_goesOn_276 : decode cX7_goesOn 276 = .ok (.istore_n 2, 1) := by decide +kernel
theorem dX7_goesOn_277 : decode cX7_goesOn 277 = .ok (.iinc 4 1, 3) := by decide +kernel
theorem dX7_goesOn_280 : decode cX7_goesOn 280 = .ok (.goto (-24), 3) := by decide +kernel
theorem dX7_goesOn_283 : decode cX7_goesOn 283 = .ok (.aload_n 0, 1) := by decide +kernel
theorem dX7_goesOn_284 : decode cX7_goesOn 284 = .ok (.getfield 7, 3) := by decide +kernel
theorem dX7_goesOn_287 : decode cX7_goesOn 287 = .ok (.iconst 3, 1) := by decide +kernel
theorem dX7_goesOn_288 : decode cX7_goesOn 288 = .ok (.dup2, 1) := by decide +kernel
theorem dX7_goesOn_289 : decode cX7_goesOn 289 = .ok (.iaload, 1) := by decide +kernel
theorem dX7_goesOn_290 : decode cX7_goesOn 290 = .ok (.iload_n 2, 1) := by decide +kernel
theorem dX7_goesOn_291 : decode cX7_goesOn 291 = .ok (.iadd, 1) := by decide +kernel
theorem dX7_goesOn_292 : decode cX7_goesOn 292 = .ok (.iastore, 1) := by decide +kernel
theorem dX7_goesOn_293 : decode cX7_goesOn 293 = .ok (.aload_n 0, 1) := by decide +kernel
theorem dX7_goesOn_294 : decode cX7_goesOn 294 = .ok (.getfield 7, 3) := by decide +kernel
theorem dX7_goesOn_297 : decode cX7_goesOn 297 = .ok (.iconst 2, 1) := by decide +kernel
theorem dX7_goesOn_298 : decode cX7_goesOn 298 = .ok (.dup2, 1) := by decide +kernel
theorem dX7_goesOn_299 : decode cX7_goesOn 299 = .ok (.iaload, 1) := by decide +kernel
theorem dX7_goesOn_300 : decode cX7_goesOn 300 = .ok (.iconst 1, 1) := by decide +kernel
theorem dX7_goesOn_301 : decode cX7_goesOn 301 = .ok (.iadd, 1) := by decide +kernel
theorem dX7_goesOn_302 : decode cX7_goesOn 302 = .ok (.iastore, 1) := by decide +kernel
theorem dX7_goesOn_303 : decode cX7_goesOn 303 = .ok (.return_, 1) := by decide +kernel
theorem dX7_days_0 : decode cX7_days 0 = .ok (.iload_n 1, 1) := by decide +kernel
theorem dX7_days_1 : decode cX7_days 1 = .ok (.i2l, 1) := by decide +kernel
theorem dX7_days_2 : decode cX7_days 2 = .ok (.lconst 1, 1) := by decide +kernel
theorem dX7_days_3 : decode cX7_days 3 = .ok (.ldc2_w 170, 3) := by decide +kernel
theorem dX7_days_6 : decode cX7_days 6 = .ok (.invokestatic 71, 3) := by decide +kernel
theorem dX7_days_9 : decode cX7_days 9 = .ok (.ifCond .ne 6, 3) := by decide +kernel
theorem dX7_days_12 : decode cX7_days 12 = .ok (.ldc 100, 2) := by decide +kernel
theorem dX7_days_14 : decode cX7_days 14 = .ok (.ireturn, 1) := by decide +kernel
theorem dX7_days_15 : decode cX7_days 15 = .ok (.aload_n 0, 1) := by decide +kernel
theorem dX7_days_16 : decode cX7_days 16 = .ok (.invokevirtual 123, 3) := by decide +kernel
theorem dX7_days_19 : decode cX7_days 19 = .ok (.invokestatic 157, 3) := by decide +kernel
theorem dX7_days_22 : decode cX7_days 22 = .ok (.istore_n 2, 1) := by decide +kernel
theorem dX7_days_23 : decode cX7_days 23 = .ok (.iconst 0, 1) := by decide +kernel
theorem dX7_days_24 : decode cX7_days 24 = .ok (.istore_n 3, 1) := by decide +kernel
theorem dX7_days_25 : decode cX7_days 25 = .ok (.iload_n 3, 1) := by decide +kernel
theorem dX7_days_26 : decode cX7_days 26 = .ok (.iload_n 1, 1) := by decide +kernel
theorem dX7_days_27 : decode cX7_days 27 = .ok (.if_icmp .ge 25, 3) := by decide +kernel
theorem dX7_days_30 : decode cX7_days 30 = .ok (.aload_n 0, 1) := by decide +kernel
theorem dX7_days_31 : decode cX7_days 31 = .ok (.getfield 7, 3) := by decide +kernel
theorem dX7_days_34 : decode cX7_days 34 = .ok (.iconst 2, 1) := by decide +kernel
theorem dX7_days_35 : decode cX7_days 35 = .ok (.iaload, 1) := by decide +kernel
theorem dX7_days_36 : decode cX7_days 36 = .ok (.sipush 9999, 3) := by decide +kernel
theorem dX7_days_39 : decode cX7_days 39 = .ok (.if_icmp .ge 13, 3) := by decide +kernel
theorem dX7_days_42 : decode cX7_days 42 = .ok (.aload_n 0, 1) := by decide +kernel
theorem dX7_days_43 : decode cX7_days 43 = .ok (.invokevirtual 172, 3) := by decide +kernel
theorem dX7_days_46 : decode cX7_days 46 = .ok (.iinc 3 1, 3) := by decide +kernel
theorem dX7_days_49 : decode cX7_days 49 = .ok (.goto (-24), 3) := by decide +kernel
theorem dX7_days_52 : decode cX7_days 52 = .ok (.iload_n 2, 1) := by decide +kernel
theorem dX7_days_53 : decode cX7_days 53 = .ok (.aload_n 0, 1) := by decide +kernel
theorem dX7_days_54 : decode cX7_days 54 = .ok (.invokevirtual 123, 3) := by decide +kernel
theorem dX7_days_57 : decode cX7_days 57 = .ok (.invokestatic 157, 3) := by decide +kernel
theorem dX7_days_60 : decode cX7_days 60 = .ok (.isub, 1) := by decide +kernel
theorem dX7_days_61 : decode cX7_days 61 = .ok (.ireturn, 1) := by decide +kernel
theorem dX7_allOf_0 : decode cX7_allOf 0 = .ok (.iconst 0, 1) := by decide +kernel
theorem dX7_allOf_1 : decode cX7_allOf 1 = .ok (.istore_n 2, 1) := by decide +kernel
theorem dX7_allOf_2 : decode cX7_allOf 2 = .ok (.iconst 0, 1) := by decide +kernel
theorem dX7_allOf_3 : decode cX7_allOf 3 = .ok (.istore_n 3, 1) := by decide +kernel
theorem dX7_allOf_4 : decode cX7_allOf 4 = .ok (.iload_n 3, 1) := by decide +kernel
theorem dX7_allOf_5 : decode cX7_allOf 5 = .ok (.aload_n 0, 1) := by decide +kernel
theorem dX7_allOf_6 : decode cX7_allOf 6 = .ok (.getfield 7, 3) := by decide +kernel
theorem dX7_allOf_9 : decode cX7_allOf 9 = .ok (.iconst 0, 1) := by decide +kernel
theorem dX7_allOf_10 : decode cX7_allOf 10 = .ok (.iaload, 1) := by decide +kernel
theorem dX7_allOf_11 : decode cX7_allOf 11 = .ok (.if_icmp .ge 18, 3) := by decide +kernel
theorem dX7_allOf_14 : decode cX7_allOf 14 = .ok (.iload_n 2, 1) := by decide +kernel
theorem dX7_allOf_15 : decode cX7_allOf 15 = .ok (.aload_n 0, 1) := by decide +kernel
theorem dX7_allOf_16 : decode cX7_allOf 16 = .ok (.iload_n 3, 1) := by decide +kernel
theorem dX7_allOf_17 : decode cX7_allOf 17 = .ok (.iload_n 1, 1) := by decide +kernel
theorem dX7_allOf_18 : decode cX7_allOf 18 = .ok (.invokevirtual 75, 3) := by decide +kernel
theorem dX7_allOf_21 : decode cX7_allOf 21 = .ok (.iadd, 1) := by decide +kernel
theorem dX7_allOf_22 : decode cX7_allOf 22 = .ok (.istore_n 2, 1) := by decide +kernel
theorem dX7_allOf_23 : decode cX7_allOf 23 = .ok (.iinc 3 1, 3) := by decide +kernel
theorem dX7_allOf_26 : decode cX7_allOf 26 = .ok (.goto (-22), 3) := by decide +kernel
theorem dX7_allOf_29 : decode cX7_allOf 29 = .ok (.iload_n 2, 1) := by decide +kernel
theorem dX7_allOf_30 : decode cX7_allOf 30 = .ok (.ireturn, 1) := by decide +kernel
theorem dX7_looseOnes_0 : decode cX7_looseOnes 0 = .ok (.iconst 0, 1) := by decide +kernel
theorem dX7_looseOnes_1 : decode cX7_looseOnes 1 = .ok (.istore_n 1, 1) := by decide +kernel
theorem dX7_looseOnes_2 : decode cX7_looseOnes 2 = .ok (.iconst 0, 1) := by decide +kernel
theorem dX7_looseOnes_3 : decode cX7_looseOnes 3 = .ok (.istore_n 2, 1) := by decide +kernel
theorem dX7_looseOnes_4 : decode cX7_looseOnes 4 = .ok (.iload_n 2, 1) := by decide +kernel
theorem dX7_looseOnes_5 : decode cX7_looseOnes 5 = .ok (.aload_n 0, 1) := by decide +kernel
theorem dX7_looseOnes_6 : decode cX7_looseOnes 6 = .ok (.getfield 7, 3) := by decide +kernel
theorem dX7_looseOnes_9 : decode cX7_looseOnes 9 = .ok (.iconst 0, 1) := by decide +kernel
theorem dX7_looseOnes_10 : decode cX7_looseOnes 10 = .ok (.iaload, 1) := by decide +kernel
theorem dX7_looseOnes_11 : decode cX7_looseOnes 11 = .ok (.if_icmp .ge 44, 3) := by decide +kernel
theorem dX7_looseOnes_14 : decode cX7_looseOnes 14 = .ok (.iload_n 1, 1) := by decide +kernel
theorem dX7_looseOnes_15 : decode cX7_looseOnes 15 = .ok (.aload_n 0, 1) := by decide +kernel
theorem dX7_looseOnes_16 : decode cX7_looseOnes 16 = .ok (.iload_n 2, 1) := by decide +kernel
theorem dX7_looseOnes_17 : decode cX7_looseOnes 17 = .ok (.invokevirtual 119, 3) := by decide +kernel
theorem dX7_looseOnes_20 : decode cX7_looseOnes 20 = .ok (.ifCond .eq 26, 3) := by decide +kernel
theorem dX7_looseOnes_23 : decode cX7_looseOnes 23 = .ok (.aload_n 0, 1) := by decide +kernel
theorem dX7_looseOnes_24 : decode cX7_looseOnes 24 = .ok (.iload_n 2, 1) := by decide +kernel
theorem dX7_looseOnes_25 : decode cX7_looseOnes 25 = .ok (.invokevirtual 139, 3) := by decide +kernel
theorem dX7_looseOnes_28 : decode cX7_looseOnes 28 = .ok (.iconst 0, 1) := by decide +kernel
theorem dX7_looseOnes_29 : decode cX7_looseOnes 29 = .ok (.invokestatic 106, 3) := by decide +kernel
theorem dX7_looseOnes_32 : decode cX7_looseOnes 32 = .ok (.aload_n 0, 1) := by decide +kernel
theorem dX7_looseOnes_33 : decode cX7_looseOnes 33 = .ok (.iload_n 2, 1) := by decide +kernel
theorem dX7_looseOnes_34 : decode cX7_looseOnes 34 = .ok (.invokevirtual 136, 3) := by decide +kernel
theorem dX7_looseOnes_37 : decode cX7_looseOnes 37 = .ok (.if_icmp .le 9, 3) := by decide +kernel
theorem dX7_looseOnes_40 : decode cX7_looseOnes 40 = .ok (.iconst 1, 1) := by decide +kernel
theorem dX7_looseOnes_41 : decode cX7_looseOnes 41 = .ok (.iload_n 2, 1) := by decide +kernel
theorem dX7_looseOnes_42 : decode cX7_looseOnes 42 = .ok (.ishl, 1) := by decide +kernel
theorem dX7_looseOnes_43 : decode cX7_looseOnes 43 = .ok (.goto 4, 3) := by decide +kernel
theorem dX7_looseOnes_46 : decode cX7_looseOnes 46 = .ok (.iconst 0, 1) := by decide +kernel
theorem dX7_looseOnes_47 : decode cX7_looseOnes 47 = .ok (.ior, 1) := by decide +kernel
theorem dX7_looseOnes_48 : decode cX7_looseOnes 48 = .ok (.istore_n 1, 1) := by decide +kernel
theorem dX7_looseOnes_49 : decode cX7_looseOnes 49 = .ok (.iinc 2 1, 3) := by decide +kernel
theorem dX7_looseOnes_52 : decode cX7_looseOnes 52 = .ok (.goto (-48), 3) := by decide +kernel
theorem dX7_looseOnes_55 : decode cX7_looseOnes 55 = .ok (.iload_n 1, 1) := by decide +kernel
theorem dX7_looseOnes_56 : decode cX7_looseOnes 56 = .ok (.ireturn, 1) := by decide +kernel
theorem dX7_street_0 : decode cX7_street 0 = .ok (.iload_n 1, 1) := by decide +kernel
theorem dX7_street_1 : decode cX7_street 1 = .ok (.tableswitch 64 0 4 #[35, 42, 47, 53, 59], 35) := by decide +kernel
theorem dX7_street_36 : decode cX7_street 36 = .ok (.aload_n 0, 1) := by decide +kernel
theorem dX7_street_37 : decode cX7_street 37 = .ok (.getfield 7, 3) := by decide +kernel
theorem dX7_street_40 : decode cX7_street 40 = .ok (.iconst 3, 1) := by decide +kernel
theorem dX7_street_41 : decode cX7_street 41 = .ok (.iaload, 1) := by decide +kernel
theorem dX7_street_42 : decode cX7_street 42 = .ok (.ireturn, 1) := by decide +kernel
theorem dX7_street_43 : decode cX7_street 43 = .ok (.aload_n 0, 1) := by decide +kernel
theorem dX7_street_44 : decode cX7_street 44 = .ok (.invokevirtual 123, 3) := by decide +kernel
theorem dX7_street_47 : decode cX7_street 47 = .ok (.ireturn, 1) := by decide +kernel
theorem dX7_street_48 : decode cX7_street 48 = .ok (.aload_n 0, 1) := by decide +kernel
theorem dX7_street_49 : decode cX7_street 49 = .ok (.iconst 4, 1) := by decide +kernel
theorem dX7_street_50 : decode cX7_street 50 = .ok (.invokevirtual 175, 3) := by decide +kernel
theorem dX7_street_53 : decode cX7_street 53 = .ok (.ireturn, 1) := by decide +kernel
theorem dX7_street_54 : decode cX7_street 54 = .ok (.aload_n 0, 1) := by decide +kernel
theorem dX7_street_55 : decode cX7_street 55 = .ok (.iconst 5, 1) := by decide +kernel
theorem dX7_street_56 : decode cX7_street 56 = .ok (.invokevirtual 175, 3) := by decide +kernel
theorem dX7_street_59 : decode cX7_street 59 = .ok (.ireturn, 1) := by decide +kernel
theorem dX7_street_60 : decode cX7_street 60 = .ok (.aload_n 0, 1) := by decide +kernel
theorem dX7_street_61 : decode cX7_street 61 = .ok (.invokevirtual 178, 3) := by decide +kernel
theorem dX7_street_64 : decode cX7_street 64 = .ok (.ireturn, 1) := by decide +kernel
theorem dX7_street_65 : decode cX7_street 65 = .ok (.ldc 100, 2) := by decide +kernel
theorem dX7_street_67 : decode cX7_street 67 = .ok (.ireturn, 1) := by decide +kernel
theorem dX7_laysBy_0 : decode cX7_laysBy 0 = .ok (.iconst 0, 1) := by decide +kernel
theorem dX7_laysBy_1 : decode cX7_laysBy 1 = .ok (.istore_n 1, 1) := by decide +kernel
theorem dX7_laysBy_2 : decode cX7_laysBy 2 = .ok (.iload_n 1, 1) := by decide +kernel
theorem dX7_laysBy_3 : decode cX7_laysBy 3 = .ok (.bipush 69, 2) := by decide +kernel
theorem dX7_laysBy_5 : decode cX7_laysBy 5 = .ok (.if_icmp .ge 21, 3) := by decide +kernel
theorem dX7_laysBy_8 : decode cX7_laysBy 8 = .ok (.aload_n 0, 1) := by decide +kernel
theorem dX7_laysBy_9 : decode cX7_laysBy 9 = .ok (.getfield 49, 3) := by decide +kernel
theorem dX7_laysBy_12 : decode cX7_laysBy 12 = .ok (.iload_n 1, 1) := by decide +kernel
theorem dX7_laysBy_13 : decode cX7_laysBy 13 = .ok (.aload_n 0, 1) := by decide +kernel
theorem dX7_laysBy_14 : decode cX7_laysBy 14 = .ok (.getfield 7, 3) := by decide +kernel
theorem dX7_laysBy_17 : decode cX7_laysBy 17 = .ok (.iload_n 1, 1) := by decide +kernel
theorem dX7_laysBy_18 : decode cX7_laysBy 18 = .ok (.iaload, 1) := by decide +kernel
theorem dX7_laysBy_19 : decode cX7_laysBy 19 = .ok (.iastore, 1) := by decide +kernel
theorem dX7_laysBy_20 : decode cX7_laysBy 20 = .ok (.iinc 1 1, 3) := by decide +kernel
theorem dX7_laysBy_23 : decode cX7_laysBy 23 = .ok (.goto (-21), 3) := by decide +kernel
theorem dX7_laysBy_26 : decode cX7_laysBy 26 = .ok (.return_, 1) := by decide +kernel
theorem dX7_laysBack_0 : decode cX7_laysBack 0 = .ok (.iconst 0, 1) := by decide +kernel
theorem dX7_laysBack_1 : decode cX7_laysBack 1 = .ok (.istore_n 1, 1) := by decide +kernel
theorem dX7_laysBack_2 : decode cX7_laysBack 2 = .ok (.iload_n 1, 1) := by decide +kernel
theorem dX7_laysBack_3 : decode cX7_laysBack 3 = .ok (.bipush 69, 2) := by decide +kernel
theorem dX7_laysBack_5 : decode cX7_laysBack 5 = .ok (.if_icmp .ge 21, 3) := by decide +kernel
theorem dX7_laysBack_8 : decode cX7_laysBack 8 = .ok (.aload_n 0, 1) := by decide +kernel
theorem dX7_laysBack_9 : decode cX7_laysBack 9 = .ok (.getfield 7, 3) := by decide +kernel
theorem dX7_laysBack_12 : decode cX7_laysBack 12 = .ok (.iload_n 1, 1) := by decide +kernel
theorem dX7_laysBack_13 : decode cX7_laysBack 13 = .ok (.aload_n 0, 1) := by decide +kernel
theorem dX7_laysBack_14 : decode cX7_laysBack 14 = .ok (.getfield 49, 3) := by decide +kernel
theorem dX7_laysBack_17 : decode cX7_laysBack 17 = .ok (.iload_n 1, 1) := by decide +kernel
theorem dX7_laysBack_18 : decode cX7_laysBack 18 = .ok (.iaload, 1) := by decide +kernel
theorem dX7_laysBack_19 : decode cX7_laysBack 19 = .ok (.iastore, 1) := by decide +kernel
theorem dX7_laysBack_20 : decode cX7_laysBack 20 = .ok (.iinc 1 1, 3) := by decide +kernel
theorem dX7_laysBack_23 : decode cX7_laysBack 23 = .ok (.goto (-21), 3) := by decide +kernel
