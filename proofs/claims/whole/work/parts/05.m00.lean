theorem dX7_init_0 : decode cX7_init 0 = .ok (.aload_n 0, 1) := by decide +kernel
theorem dX7_init_1 : decode cX7_init 1 = .ok (.invokespecial 1, 3) := by decide +kernel
theorem dX7_init_4 : decode cX7_init 4 = .ok (.aload_n 0, 1) := by decide +kernel
theorem dX7_init_5 : decode cX7_init 5 = .ok (.sipush 3069, 3) := by decide +kernel
theorem dX7_init_8 : decode cX7_init 8 = .ok (.newarray .int, 2) := by decide +kernel
theorem dX7_init_10 : decode cX7_init 10 = .ok (.putfield 7, 3) := by decide +kernel
theorem dX7_init_13 : decode cX7_init 13 = .ok (.aload_n 0, 1) := by decide +kernel
theorem dX7_init_14 : decode cX7_init 14 = .ok (.sipush 3069, 3) := by decide +kernel
theorem dX7_init_17 : decode cX7_init 17 = .ok (.newarray .int, 2) := by decide +kernel
theorem dX7_init_19 : decode cX7_init 19 = .ok (.putfield 13, 3) := by decide +kernel
theorem dX7_init_22 : decode cX7_init 22 = .ok (.aload_n 0, 1) := by decide +kernel
theorem dX7_init_23 : decode cX7_init 23 = .ok (.sipush 3069, 3) := by decide +kernel
theorem dX7_init_26 : decode cX7_init 26 = .ok (.newarray .int, 2) := by decide +kernel
theorem dX7_init_28 : decode cX7_init 28 = .ok (.putfield 16, 3) := by decide +kernel
theorem dX7_init_31 : decode cX7_init 31 = .ok (.aload_n 0, 1) := by decide +kernel
theorem dX7_init_32 : decode cX7_init 32 = .ok (.iconst 4, 1) := by decide +kernel
theorem dX7_init_33 : decode cX7_init 33 = .ok (.newarray .int, 2) := by decide +kernel
theorem dX7_init_35 : decode cX7_init 35 = .ok (.putfield 19, 3) := by decide +kernel
theorem dX7_init_38 : decode cX7_init 38 = .ok (.aload_n 0, 1) := by decide +kernel
theorem dX7_init_39 : decode cX7_init 39 = .ok (.iconst 4, 1) := by decide +kernel
theorem dX7_init_40 : decode cX7_init 40 = .ok (.newarray .int, 2) := by decide +kernel
theorem dX7_init_42 : decode cX7_init 42 = .ok (.putfield 22, 3) := by decide +kernel
theorem dX7_init_45 : decode cX7_init 45 = .ok (.aload_n 0, 1) := by decide +kernel
theorem dX7_init_46 : decode cX7_init 46 = .ok (.bipush 96, 2) := by decide +kernel
theorem dX7_init_48 : decode cX7_init 48 = .ok (.newarray .int, 2) := by decide +kernel
theorem dX7_init_50 : decode cX7_init 50 = .ok (.putfield 25, 3) := by decide +kernel
theorem dX7_init_53 : decode cX7_init 53 = .ok (.aload_n 0, 1) := by decide +kernel
theorem dX7_init_54 : decode cX7_init 54 = .ok (.iconst 5, 1) := by decide +kernel
theorem dX7_init_55 : decode cX7_init 55 = .ok (.newarray .int, 2) := by decide +kernel
theorem dX7_init_57 : decode cX7_init 57 = .ok (.putfield 28, 3) := by decide +kernel
theorem dX7_init_60 : decode cX7_init 60 = .ok (.aload_n 0, 1) := by decide +kernel
theorem dX7_init_61 : decode cX7_init 61 = .ok (.iconst 5, 1) := by decide +kernel
theorem dX7_init_62 : decode cX7_init 62 = .ok (.newarray .int, 2) := by decide +kernel
theorem dX7_init_64 : decode cX7_init 64 = .ok (.putfield 31, 3) := by decide +kernel
theorem dX7_init_67 : decode cX7_init 67 = .ok (.aload_n 0, 1) := by decide +kernel
theorem dX7_init_68 : decode cX7_init 68 = .ok (.iconst 5, 1) := by decide +kernel
theorem dX7_init_69 : decode cX7_init 69 = .ok (.newarray .int, 2) := by decide +kernel
theorem dX7_init_71 : decode cX7_init 71 = .ok (.putfield 34, 3) := by decide +kernel
theorem dX7_init_74 : decode cX7_init 74 = .ok (.aload_n 0, 1) := by decide +kernel
theorem dX7_init_75 : decode cX7_init 75 = .ok (.iconst 5, 1) := by decide +kernel
theorem dX7_init_76 : decode cX7_init 76 = .ok (.newarray .int, 2) := by decide +kernel
theorem dX7_init_78 : decode cX7_init 78 = .ok (.putfield 37, 3) := by decide +kernel
theorem dX7_init_81 : decode cX7_init 81 = .ok (.aload_n 0, 1) := by decide +kernel
theorem dX7_init_82 : decode cX7_init 82 = .ok (.bipush 120, 2) := by decide +kernel
theorem dX7_init_84 : decode cX7_init 84 = .ok (.newarray .int, 2) := by decide +kernel
theorem dX7_init_86 : decode cX7_init 86 = .ok (.putfield 40, 3) := by decide +kernel
theorem dX7_init_89 : decode cX7_init 89 = .ok (.aload_n 0, 1) := by decide +kernel
theorem dX7_init_90 : decode cX7_init 90 = .ok (.bipush 9, 2) := by decide +kernel
theorem dX7_init_92 : decode cX7_init 92 = .ok (.newarray .int, 2) := by decide +kernel
theorem dX7_init_94 : decode cX7_init 94 = .ok (.putfield 43, 3) := by decide +kernel
theorem dX7_init_97 : decode cX7_init 97 = .ok (.aload_n 0, 1) := by decide +kernel
theorem dX7_init_98 : decode cX7_init 98 = .ok (.bipush 9, 2) := by decide +kernel
theorem dX7_init_100 : decode cX7_init 100 = .ok (.newarray .int, 2) := by decide +kernel
theorem dX7_init_102 : decode cX7_init 102 = .ok (.putfield 46, 3) := by decide +kernel
theorem dX7_init_105 : decode cX7_init 105 = .ok (.aload_n 0, 1) := by decide +kernel
theorem dX7_init_106 : decode cX7_init 106 = .ok (.bipush 69, 2) := by decide +kernel
theorem dX7_init_108 : decode cX7_init 108 = .ok (.newarray .int, 2) := by decide +kernel
theorem dX7_init_110 : decode cX7_init 110 = .ok (.putfield 49, 3) := by decide +kernel
theorem dX7_init_113 : decode cX7_init 113 = .ok (.aload_n 0, 1) := by decide +kernel
theorem dX7_init_114 : decode cX7_init 114 = .ok (.bipush 96, 2) := by decide +kernel
theorem dX7_init_116 : decode cX7_init 116 = .ok (.newarray .int, 2) := by decide +kernel
theorem dX7_init_118 : decode cX7_init 118 = .ok (.putfield 52, 3) := by decide +kernel
theorem dX7_init_121 : decode cX7_init 121 = .ok (.aload_n 0, 1) := by decide +kernel
theorem dX7_init_122 : decode cX7_init 122 = .ok (.sipush 128, 3) := by decide +kernel
theorem dX7_init_125 : decode cX7_init 125 = .ok (.newarray .int, 2) := by decide +kernel
theorem dX7_init_127 : decode cX7_init 127 = .ok (.putfield 55, 3) := by decide +kernel
theorem dX7_init_130 : decode cX7_init 130 = .ok (.aload_n 0, 1) := by decide +kernel
theorem dX7_init_131 : decode cX7_init 131 = .ok (.bipush 100, 2) := by decide +kernel
theorem dX7_init_133 : decode cX7_init 133 = .ok (.newarray .int, 2) := by decide +kernel
theorem dX7_init_135 : decode cX7_init 135 = .ok (.putfield 58, 3) := by decide +kernel
theorem dX7_init_138 : decode cX7_init 138 = .ok (.aload_n 0, 1) := by decide +kernel
theorem dX7_init_139 : decode cX7_init 139 = .ok (.bipush 24, 2) := by decide +kernel
theorem dX7_init_141 : decode cX7_init 141 = .ok (.newarray .int, 2) := by decide +kernel
theorem dX7_init_143 : decode cX7_init 143 = .ok (.putfield 61, 3) := by decide +kernel
theorem dX7_init_146 : decode cX7_init 146 = .ok (.aload_n 0, 1) := by decide +kernel
theorem dX7_init_147 : decode cX7_init 147 = .ok (.bipush 60, 2) := by decide +kernel
theorem dX7_init_149 : decode cX7_init 149 = .ok (.newarray .int, 2) := by decide +kernel
theorem dX7_init_151 : decode cX7_init 151 = .ok (.putfield 64, 3) := by decide +kernel
theorem dX7_init_154 : decode cX7_init 154 = .ok (.aload_n 0, 1) := by decide +kernel
theorem dX7_init_155 : decode cX7_init 155 = .ok (.bipush 60, 2) := by decide +kernel
theorem dX7_init_157 : decode cX7_init 157 = .ok (.newarray .int, 2) := by decide +kernel
theorem dX7_init_159 : decode cX7_init 159 = .ok (.putfield 67, 3) := by decide +kernel
theorem dX7_init_162 : decode cX7_init 162 = .ok (.aload_n 0, 1) := by decide +kernel
theorem dX7_init_163 : decode cX7_init 163 = .ok (.getfield 7, 3) := by decide +kernel
theorem dX7_init_166 : decode cX7_init 166 = .ok (.iconst 5, 1) := by decide +kernel
theorem dX7_init_167 : decode cX7_init 167 = .ok (.iconst 1, 1) := by decide +kernel
theorem dX7_init_168 : decode cX7_init 168 = .ok (.iastore, 1) := by decide +kernel
theorem dX7_init_169 : decode cX7_init 169 = .ok (.iconst 0, 1) := by decide +kernel
theorem dX7_init_170 : decode cX7_init 170 = .ok (.istore_n 1, 1) := by decide +kernel
theorem dX7_init_171 : decode cX7_init 171 = .ok (.iload_n 1, 1) := by decide +kernel
theorem dX7_init_172 : decode cX7_init 172 = .ok (.iconst 4, 1) := by decide +kernel
theorem dX7_init_173 : decode cX7_init 173 = .ok (.if_icmp .ge 16, 3) := by decide +kernel
theorem dX7_init_176 : decode cX7_init 176 = .ok (.aload_n 0, 1) := by decide +kernel
theorem dX7_init_177 : decode cX7_init 177 = .ok (.getfield 19, 3) := by decide +kernel
theorem dX7_init_180 : decode cX7_init 180 = .ok (.iload_n 1, 1) := by decide +kernel
theorem dX7_init_181 : decode cX7_init 181 = .ok (.iconst (-1), 1) := by decide +kernel
theorem dX7_init_182 : decode cX7_init 182 = .ok (.iastore, 1) := by decide +kernel
theorem dX7_init_183 : decode cX7_init 183 = .ok (.iinc 1 1, 3) := by decide +kernel
theorem dX7_init_186 : decode cX7_init 186 = .ok (.goto (-15), 3) := by decide +kernel
theorem dX7_init_189 : decode cX7_init 189 = .ok (.return_, 1) := by decide +kernel
theorem dX7_isIn_0 : decode cX7_isIn 0 = .ok (.lload_n 0, 1) := by decide +kernel
theorem dX7_isIn_1 : decode cX7_isIn 1 = .ok (.lload_n 2, 1) := by decide +kernel
theorem dX7_isIn_2 : decode cX7_isIn 2 = .ok (.lcmp, 1) := by decide +kernel
theorem dX7_isIn_3 : decode cX7_isIn 3 = .ok (.ifCond .lt 14, 3) := by decide +kernel
theorem dX7_isIn_6 : decode cX7_isIn 6 = .ok (.lload_n 0, 1) := by decide +kernel
theorem dX7_isIn_7 : decode cX7_isIn 7 = .ok (.lload 4, 2) := by decide +kernel
theorem dX7_isIn_9 : decode cX7_isIn 9 = .ok (.lcmp, 1) := by decide +kernel
theorem dX7_isIn_10 : decode cX7_isIn 10 = .ok (.ifCond .gt 7, 3) := by decide +kernel
theorem dX7_isIn_13 : decode cX7_isIn 13 = .ok (.iconst 1, 1) := by decide +kernel
theorem dX7_isIn_14 : decode cX7_isIn 14 = .ok (.goto 4, 3) := by decide +kernel
theorem dX7_isIn_17 : decode cX7_isIn 17 = .ok (.iconst 0, 1) := by decide +kernel
theorem dX7_isIn_18 : decode cX7_isIn 18 = .ok (.ireturn, 1) := by decide +kernel
theorem dX7_orNone_0 : decode cX7_orNone 0 = .ok (.iload_n 0, 1) := by decide +kernel
theorem dX7_orNone_1 : decode cX7_orNone 1 = .ok (.ifCond .ge 8, 3) := by decide +kernel
theorem dX7_orNone_4 : decode cX7_orNone 4 = .ok (.ldc 70, 2) := by decide +kernel
theorem dX7_orNone_6 : decode cX7_orNone 6 = .ok (.goto 4, 3) := by decide +kernel
theorem dX7_orNone_9 : decode cX7_orNone 9 = .ok (.iload_n 0, 1) := by decide +kernel
theorem dX7_orNone_10 : decode cX7_orNone 10 = .ok (.ireturn, 1) := by decide +kernel
theorem dX7_held_0 : decode cX7_held 0 = .ok (.iload_n 0, 1) := by decide +kernel
theorem dX7_held_1 : decode cX7_held 1 = .ok (.iload_n 1, 1) := by decide +kernel
theorem dX7_held_2 : decode cX7_held 2 = .ok (.if_icmp .ge 7, 3) := by decide +kernel
theorem dX7_held_5 : decode cX7_held 5 = .ok (.iload_n 1, 1) := by decide +kernel
theorem dX7_held_6 : decode cX7_held 6 = .ok (.goto 13, 3) := by decide +kernel
theorem dX7_held_9 : decode cX7_held 9 = .ok (.iload_n 0, 1) := by decide +kernel
theorem dX7_held_10 : decode cX7_held 10 = .ok (.iload_n 2, 1) := by decide +kernel
theorem dX7_held_11 : decode cX7_held 11 = .ok (.if_icmp .le 7, 3) := by decide +kernel
theorem dX7_held_14 : decode cX7_held 14 = .ok (.iload_n 2, 1) := by decide +kernel
theorem dX7_held_15 : decode cX7_held 15 = .ok (.goto 4, 3) := by decide +kernel
theorem dX7_held_18 : decode cX7_held 18 = .ok (.iload_n 0, 1) := by decide +kernel
theorem dX7_held_19 : decode cX7_held 19 = .ok (.ireturn, 1) := by decide +kernel
theorem dX7_off_0 : decode cX7_off 0 = .ok (.iload_n 0, 1) := by decide +kernel
theorem dX7_off_1 : decode cX7_off 1 = .ok (.iload_n 1, 1) := by decide +kernel
theorem dX7_off_2 : decode cX7_off 2 = .ok (.if_icmp .ge 9, 3) := by decide +kernel
theorem dX7_off_5 : decode cX7_off 5 = .ok (.iload_n 1, 1) := by decide +kernel
theorem dX7_off_6 : decode cX7_off 6 = .ok (.iload_n 0, 1) := by decide +kernel
theorem dX7_off_7 : decode cX7_off 7 = .ok (.isub, 1) := by decide +kernel
theorem dX7_off_8 : decode cX7_off 8 = .ok (.goto 6, 3) := by decide +kernel
theorem dX7_off_11 : decode cX7_off 11 = .ok (.iload_n 0, 1) := by decide +kernel
theorem dX7_off_12 : decode cX7_off 12 = .ok (.iload_n 1, 1) := by decide +kernel
theorem dX7_off_13 : decode cX7_off 13 = .ok (.isub, 1) := by decide +kernel
theorem dX7_off_14 : decode cX7_off 14 = .ok (.ireturn, 1) := by decide +kernel
theorem dX7_manyIn_0 : decode cX7_manyIn 0 = .ok (.iconst 0, 1) := by decide +kernel
theorem dX7_manyIn_1 : decode cX7_manyIn 1 = .ok (.istore_n 1, 1) := by decide +kernel
theorem dX7_manyIn_2 : decode cX7_manyIn 2 = .ok (.iload_n 0, 1) := by decide +kernel
theorem dX7_manyIn_3 : decode cX7_manyIn 3 = .ok (.istore_n 2, 1) := by decide +kernel
theorem dX7_manyIn_4 : decode cX7_manyIn 4 = .ok (.iload_n 2, 1) := by decide +kernel
theorem dX7_manyIn_5 : decode cX7_manyIn 5 = .ok (.ifCond .eq 15, 3) := by decide +kernel
theorem dX7_manyIn_8 : decode cX7_manyIn 8 = .ok (.iinc 1 1, 3) := by decide +kernel
theorem dX7_manyIn_11 : decode cX7_manyIn 11 = .ok (.iload_n 2, 1) := by decide +kernel
theorem dX7_manyIn_12 : decode cX7_manyIn 12 = .ok (.iload_n 2, 1) := by decide +kernel
theorem dX7_manyIn_13 : decode cX7_manyIn 13 = .ok (.iconst 1, 1) := by decide +kernel
theorem dX7_manyIn_14 : decode cX7_manyIn 14 = .ok (.isub, 1) := by decide +kernel
theorem dX7_manyIn_15 : decode cX7_manyIn 15 = .ok (.iand, 1) := by decide +kernel
theorem dX7_manyIn_16 : decode cX7_manyIn 16 = .ok (.istore_n 2, 1) := by decide +kernel
theorem dX7_manyIn_17 : decode cX7_manyIn 17 = .ok (.goto (-13), 3) := by decide +kernel
theorem dX7_manyIn_20 : decode cX7_manyIn 20 = .ok (.iload_n 1, 1) := by decide +kernel
theorem dX7_manyIn_21 : decode cX7_manyIn 21 = .ok (.ireturn, 1) := by decide +kernel
theorem dX7_becomes_0 : decode cX7_becomes 0 = .ok (.aload_n 0, 1) := by decide +kernel
theorem dX7_becomes_1 : decode cX7_becomes 1 = .ok (.getfield 7, 3) := by decide +kernel
theorem dX7_becomes_4 : decode cX7_becomes 4 = .ok (.iload_n 1, 1) := by decide +kernel
theorem dX7_becomes_5 : decode cX7_becomes 5 = .ok (.iaload, 1) := by decide +kernel
theorem dX7_becomes_6 : decode cX7_becomes 6 = .ok (.istore_n 3, 1) := by decide +kernel
theorem dX7_becomes_7 : decode cX7_becomes 7 = .ok (.aload_n 0, 1) := by decide +kernel
theorem dX7_becomes_8 : decode cX7_becomes 8 = .ok (.getfield 7, 3) := by decide +kernel
theorem dX7_becomes_11 : decode cX7_becomes 11 = .ok (.iload_n 1, 1) := by decide +kernel
theorem dX7_becomes_12 : decode cX7_becomes 12 = .ok (.iload_n 2, 1) := by decide +kernel
theorem dX7_becomes_13 : decode cX7_becomes 13 = .ok (.iastore, 1) := by decide +kernel
theorem dX7_becomes_14 : decode cX7_becomes 14 = .ok (.iload_n 3, 1) := by decide +kernel
theorem dX7_becomes_15 : decode cX7_becomes 15 = .ok (.ireturn, 1) := by decide +kernel
theorem dX7_textAt_0 : decode cX7_textAt 0 = .ok (.bipush 69, 2) := by decide +kernel
theorem dX7_textAt_2 : decode cX7_textAt 2 = .ok (.sipush 200, 3) := by decide +kernel
theorem dX7_textAt_5 : decode cX7_textAt 5 = .ok (.iload_n 1, 1) := by decide +kernel
theorem dX7_textAt_6 : decode cX7_textAt 6 = .ok (.imul, 1) := by decide +kernel
theorem dX7_textAt_7 : decode cX7_textAt 7 = .ok (.iadd, 1) := by decide +kernel
theorem dX7_textAt_8 : decode cX7_textAt 8 = .ok (.ireturn, 1) := by decide +kernel
theorem dX7_of_0 : decode cX7_of 0 = .ok (.aload_n 0, 1) := by decide +kernel
theorem dX7_of_1 : decode cX7_of 1 = .ok (.getfield 7, 3) := by decide +kernel
theorem dX7_of_4 : decode cX7_of 4 = .ok (.bipush 6, 2) := by decide +kernel
theorem dX7_of_6 : decode cX7_of 6 = .ok (.bipush 7, 2) := by decide +kernel
theorem dX7_of_8 : decode cX7_of 8 = .ok (.iload_n 1, 1) := by decide +kernel
theorem dX7_of_9 : decode cX7_of 9 = .ok (.imul, 1) := by decide +kernel
theorem dX7_of_10 : decode cX7_of 10 = .ok (.iadd, 1) := by decide +kernel
theorem dX7_of_11 : decode cX7_of 11 = .ok (.iload_n 2, 1) := by decide +kernel
theorem dX7_of_12 : decode cX7_of 12 = .ok (.iadd, 1) := by decide +kernel
theorem dX7_of_13 : decode cX7_of 13 = .ok (.iaload, 1) := by decide +kernel
theorem dX7_of_14 : decode cX7_of 14 = .ok (.ireturn, 1) := by decide +kernel
theorem dX7_sets_0 : decode cX7_sets 0 = .ok (.aload_n 0, 1) := by decide +kernel
theorem dX7_sets_1 : decode cX7_sets 1 = .ok (.getfield 7, 3) := by decide +kernel
theorem dX7_sets_4 : decode cX7_sets 4 = .ok (.bipush 6, 2) := by decide +kernel
theorem dX7_sets_6 : decode cX7_sets 6 = .ok (.bipush 7, 2) := by decide +kernel
theorem dX7_sets_8 : decode cX7_sets 8 = .ok (.iload_n 1, 1) := by decide +kernel
theorem dX7_sets_9 : decode cX7_sets 9 = .ok (.imul, 1) := by decide +kernel
theorem dX7_sets_10 : decode cX7_sets 10 = .ok (.iadd, 1) := by decide +kernel
theorem dX7_sets_11 : decode cX7_sets 11 = .ok (.iload_n 2, 1) := by decide +kernel
theorem dX7_sets_12 : decode cX7_sets 12 = .ok (.iadd, 1) := by decide +kernel
theorem dX7_sets_13 : decode cX7_sets 13 = .ok (.iload_n 3, 1) := by decide +kernel
theorem dX7_sets_14 : decode cX7_sets 14 = .ok (.iastore, 1) := by decide +kernel
theorem dX7_sets_15 : decode cX7_sets 15 = .ok (.return_, 1) := by decide +kernel
set_option maxRecDepth 20000 in
theorem ggX7_isHouse_X7_isIn : GoodIn wsX7_isHouse wsX7_isIn := goodIn_r _ [5] (by decide +kernel) (by decide +kernel)
set_option maxRecDepth 20000 in
theorem gX7_isHouse_X7_isIn : GoodIn wsX7_isHouse (va_wsS RX7 71 yX7_isIn wsX7_isIn) := goodIn_app (goodIn_of _ (by decide +kernel)) ggX7_isHouse_X7_isIn
theorem dX7_isHouse_0 : decode cX7_isHouse 0 = .ok (.iload_n 1, 1) := by decide +kernel
theorem dX7_isHouse_1 : decode cX7_isHouse 1 = .ok (.i2l, 1) := by decide +kernel
theorem dX7_isHouse_2 : decode cX7_isHouse 2 = .ok (.lconst 0, 1) := by decide +kernel
theorem dX7_isHouse_3 : decode cX7_isHouse 3 = .ok (.aload_n 0, 1) := by decide +kernel
theorem dX7_isHouse_4 : decode cX7_isHouse 4 = .ok (.getfield 7, 3) := by decide +kernel
theorem dX7_isHouse_7 : decode cX7_isHouse 7 = .ok (.iconst 0, 1) := by decide +kernel
theorem dX7_isHouse_8 : decode cX7_isHouse 8 = .ok (.iaload, 1) := by decide +kernel
theorem dX7_isHouse_9 : decode cX7_isHouse 9 = .ok (.iconst 1, 1) := by decide +kernel
theorem dX7_isHouse_10 : decode cX7_isHouse 10 = .ok (.isub, 1) := by decide +kernel
theorem dX7_isHouse_11 : decode cX7_isHouse 11 = .ok (.i2l, 1) := by decide +kernel
theorem dX7_isHouse_12 : decode cX7_isHouse 12 = .ok (.invokestatic 71, 3) := by decide +kernel
theorem dX7_isHouse_15 : decode cX7_isHouse 15 = .ok (.ireturn, 1) := by decide +kernel
set_option maxRecDepth 20000 in
theorem ggX7_stands_X7_of : GoodIn wsX7_stands wsX7_of := goodIn_r _ [5, 6, 7, 8, 9, 10, 11, 12, 13, 14, 15, 16, 17, 18, 19, 20, 21, 22, 23, 24, 25, 26, 27, 28, 29, 30, 31, 32, 33, 34, 35, 36, 37, 38, 39] (by decide +kernel) (by decide +kernel)
set_option maxRecDepth 20000 in
theorem gX7_stands_X7_of : GoodIn wsX7_stands (wsV RX7 75 RX7 yX7_of wsX7_of) := goodIn_app (goodIn_of _ (by decide +kernel)) ggX7_stands_X7_of
theorem dX7_stands_0 : decode cX7_stands 0 = .ok (.aload_n 0, 1) := by decide +kernel
theorem dX7_stands_1 : decode cX7_stands 1 = .ok (.iload_n 1, 1) := by decide +kernel
theorem dX7_stands_2 : decode cX7_stands 2 = .ok (.bipush 6, 2) := by decide +kernel
theorem dX7_stands_4 : decode cX7_stands 4 = .ok (.invokevirtual 75, 3) := by decide +kernel
theorem dX7_stands_7 : decode cX7_stands 7 = .ok (.ifCond .ne 7, 3) := by decide +kernel
theorem dX7_stands_10 : decode cX7_stands 10 = .ok (.iconst 1, 1) := by decide +kernel
theorem dX7_stands_11 : decode cX7_stands 11 = .ok (.goto 4, 3) := by decide +kernel
theorem dX7_stands_14 : decode cX7_stands 14 = .ok (.iconst 0, 1) := by decide +kernel
theorem dX7_stands_15 : decode cX7_stands 15 = .ok (.ireturn, 1) := by decide +kernel
set_option maxRecDepth 20000 in
theorem ggX7_isText_X7_isIn : GoodIn wsX7_isText wsX7_isIn := goodIn_r _ [5] (by decide +kernel) (by decide +kernel)
set_option maxRecDepth 20000 in
theorem gX7_isText_X7_isIn : GoodIn wsX7_isText (va_wsS RX7 71 yX7_isIn wsX7_isIn) := goodIn_app (goodIn_of _ (by decide +kernel)) ggX7_isText_X7_isIn
theorem dX7_isText_0 : decode cX7_isText 0 = .ok (.iload_n 1, 1) := by decide +kernel
theorem dX7_isText_1 : decode cX7_isText 1 = .ok (.i2l, 1) := by decide +kernel
theorem dX7_isText_2 : decode cX7_isText 2 = .ok (.lconst 0, 1) := by decide +kernel
theorem dX7_isText_3 : decode cX7_isText 3 = .ok (.aload_n 0, 1) := by decide +kernel
theorem dX7_isText_4 : decode cX7_isText 4 = .ok (.getfield 7, 3) := by decide +kernel
theorem dX7_isText_7 : decode cX7_isText 7 = .ok (.iconst 1, 1) := by decide +kernel
theorem dX7_isText_8 : decode cX7_isText 8 = .ok (.iaload, 1) := by decide +kernel
theorem dX7_isText_9 : decode cX7_isText 9 = .ok (.iconst 1, 1) := by decide +kernel
theorem dX7_isText_10 : decode cX7_isText 10 = .ok (.isub, 1) := by decide +kernel
theorem dX7_isText_11 : decode cX7_isText 11 = .ok (.i2l, 1) := by decide +kernel
theorem dX7_isText_12 : decode cX7_isText 12 = .ok (.invokestatic 71, 3) := by decide +kernel
theorem dX7_isText_15 : decode cX7_isText 15 = .ok (.ireturn, 1) := by decide +kernel
theorem dX7_drawn_0 : decode cX7_drawn 0 = .ok (.aload_n 0, 1) := by decide +kernel
theorem dX7_drawn_1 : decode cX7_drawn 1 = .ok (.getfield 7, 3) := by decide +kernel
theorem dX7_drawn_4 : decode cX7_drawn 4 = .ok (.iconst 5, 1) := by decide +kernel
theorem dX7_drawn_5 : decode cX7_drawn 5 = .ok (.aload_n 0, 1) := by decide +kernel
theorem dX7_drawn_6 : decode cX7_drawn 6 = .ok (.getfield 7, 3) := by decide +kernel
theorem dX7_drawn_9 : decode cX7_drawn 9 = .ok (.iconst 5, 1) := by decide +kernel
theorem dX7_drawn_10 : decode cX7_drawn 10 = .ok (.iaload, 1) := by decide +kernel
theorem dX7_drawn_11 : decode cX7_drawn 11 = .ok (.ldc 79, 2) := by decide +kernel
theorem dX7_drawn_13 : decode cX7_drawn 13 = .ok (.imul, 1) := by decide +kernel
theorem dX7_drawn_14 : decode cX7_drawn 14 = .ok (.sipush 12345, 3) := by decide +kernel
theorem dX7_drawn_17 : decode cX7_drawn 17 = .ok (.iadd, 1) := by decide +kernel
theorem dX7_drawn_18 : decode cX7_drawn 18 = .ok (.iastore, 1) := by decide +kernel
theorem dX7_drawn_19 : decode cX7_drawn 19 = .ok (.aload_n 0, 1) := by decide +kernel
theorem dX7_drawn_20 : decode cX7_drawn 20 = .ok (.getfield 7, 3) := by decide +kernel
theorem dX7_drawn_23 : decode cX7_drawn 23 = .ok (.iconst 5, 1) := by decide +kernel
theorem dX7_drawn_24 : decode cX7_drawn 24 = .ok (.iaload, 1) := by decide +kernel
theorem dX7_drawn_25 : decode cX7_drawn 25 = .ok (.bipush 8, 2) := by decide +kernel
theorem dX7_drawn_27 : decode cX7_drawn 27 = .ok (.iushr, 1) := by decide +kernel
theorem dX7_drawn_28 : decode cX7_drawn 28 = .ok (.ireturn, 1) := by decide +kernel
set_option maxRecDepth 20000 in
theorem ggX7_comes_X7_sets : GoodIn wsX7_comes wsX7_sets := goodIn_r _ [6, 1, 7, 8, 9, 10, 11, 12, 13, 14, 15, 16, 17, 18, 19, 20, 21, 22, 23, 24, 25, 26, 27, 28, 29, 30, 31, 32, 33, 34, 35, 36, 37, 38, 39] (by decide +kernel) (by decide +kernel)
set_option maxRecDepth 20000 in
theorem gX7_comes_X7_sets : GoodIn wsX7_comes (wsV RX7 80 RX7 yX7_sets wsX7_sets) := goodIn_app (goodIn_of _ (by decide +kernel)) ggX7_comes_X7_sets
theorem dX7_comes_0 : decode cX7_comes 0 = .ok (.aload_n 0, 1) := by decide +kernel
theorem dX7_comes_1 : decode cX7_comes 1 = .ok (.getfield 7, 3) := by decide +kernel
theorem dX7_comes_4 : decode cX7_comes 4 = .ok (.iconst 0, 1) := by decide +kernel
theorem dX7_comes_5 : decode cX7_comes 5 = .ok (.iaload, 1) := by decide +kernel
theorem dX7_comes_6 : decode cX7_comes 6 = .ok (.istore 5, 2) := by decide +kernel
theorem dX7_comes_8 : decode cX7_comes 8 = .ok (.aload_n 0, 1) := by decide +kernel
theorem dX7_comes_9 : decode cX7_comes 9 = .ok (.getfield 7, 3) := by decide +kernel
theorem dX7_comes_12 : decode cX7_comes 12 = .ok (.iconst 0, 1) := by decide +kernel
theorem dX7_comes_13 : decode cX7_comes 13 = .ok (.dup2, 1) := by decide +kernel
theorem dX7_comes_14 : decode cX7_comes 14 = .ok (.iaload, 1) := by decide +kernel
theorem dX7_comes_15 : decode cX7_comes 15 = .ok (.iconst 1, 1) := by decide +kernel
theorem dX7_comes_16 : decode cX7_comes 16 = .ok (.iadd, 1) := by decide +kernel
theorem dX7_comes_17 : decode cX7_comes 17 = .ok (.iastore, 1) := by decide +kernel
theorem dX7_comes_18 : decode cX7_comes 18 = .ok (.aload_n 0, 1) := by decide +kernel
theorem dX7_comes_19 : decode cX7_comes 19 = .ok (.iload 5, 2) := by decide +kernel
theorem dX7_comes_21 : decode cX7_comes 21 = .ok (.iconst 0, 1) := by decide +kernel
theorem dX7_comes_22 : decode cX7_comes 22 = .ok (.iload_n 1, 1) := by decide +kernel
theorem dX7_comes_23 : decode cX7_comes 23 = .ok (.invokevirtual 80, 3) := by decide +kernel
theorem dX7_comes_26 : decode cX7_comes 26 = .ok (.aload_n 0, 1) := by decide +kernel
theorem dX7_comes_27 : decode cX7_comes 27 = .ok (.iload 5, 2) := by decide +kernel
theorem dX7_comes_29 : decode cX7_comes 29 = .ok (.iconst 1, 1) := by decide +kernel
theorem dX7_comes_30 : decode cX7_comes 30 = .ok (.iload_n 2, 1) := by decide +kernel
theorem dX7_comes_31 : decode cX7_comes 31 = .ok (.invokevirtual 80, 3) := by decide +kernel
theorem dX7_comes_34 : decode cX7_comes 34 = .ok (.aload_n 0, 1) := by decide +kernel
theorem dX7_comes_35 : decode cX7_comes 35 = .ok (.iload 5, 2) := by decide +kernel
theorem dX7_comes_37 : decode cX7_comes 37 = .ok (.iconst 2, 1) := by decide +kernel
theorem dX7_comes_38 : decode cX7_comes 38 = .ok (.iload_n 3, 1) := by decide +kernel
theorem dX7_comes_39 : decode cX7_comes 39 = .ok (.invokevirtual 80, 3) := by decide +kernel
theorem dX7_comes_42 : decode cX7_comes 42 = .ok (.aload_n 0, 1) := by decide +kernel
theorem dX7_comes_43 : decode cX7_comes 43 = .ok (.iload 5, 2) := by decide +kernel
theorem dX7_comes_45 : decode cX7_comes 45 = .ok (.iconst 3, 1) := by decide +kernel
theorem dX7_comes_46 : decode cX7_comes 46 = .ok (.iload 4, 2) := by decide +kernel
theorem dX7_comes_48 : decode cX7_comes 48 = .ok (.invokevirtual 80, 3) := by decide +kernel
theorem dX7_comes_51 : decode cX7_comes 51 = .ok (.aload_n 0, 1) := by decide +kernel
theorem dX7_comes_52 : decode cX7_comes 52 = .ok (.iload 5, 2) := by decide +kernel
theorem dX7_comes_54 : decode cX7_comes 54 = .ok (.iconst 4, 1) := by decide +kernel
theorem dX7_comes_55 : decode cX7_comes 55 = .ok (.iconst 0, 1) := by decide +kernel
theorem dX7_comes_56 : decode cX7_comes 56 = .ok (.invokevirtual 80, 3) := by decide +kernel
theorem dX7_comes_59 : decode cX7_comes 59 = .ok (.aload_n 0, 1) := by decide +kernel
theorem dX7_comes_60 : decode cX7_comes 60 = .ok (.iload 5, 2) := by decide +kernel
theorem dX7_comes_62 : decode cX7_comes 62 = .ok (.iconst 5, 1) := by decide +kernel
theorem dX7_comes_63 : decode cX7_comes 63 = .ok (.iconst 0, 1) := by decide +kernel
theorem dX7_comes_64 : decode cX7_comes 64 = .ok (.invokevirtual 80, 3) := by decide +kernel
theorem dX7_comes_67 : decode cX7_comes 67 = .ok (.aload_n 0, 1) := by decide +kernel
theorem dX7_comes_68 : decode cX7_comes 68 = .ok (.iload 5, 2) := by decide +kernel
theorem dX7_comes_70 : decode cX7_comes 70 = .ok (.bipush 6, 2) := by decide +kernel
theorem dX7_comes_72 : decode cX7_comes 72 = .ok (.iconst 0, 1) := by decide +kernel
theorem dX7_comes_73 : decode cX7_comes 73 = .ok (.invokevirtual 80, 3) := by decide +kernel
theorem dX7_comes_76 : decode cX7_comes 76 = .ok (.return_, 1) := by decide +kernel
set_option maxRecDepth 20000 in
theorem ggX7_mayBe_X7_isIn : GoodIn wsX7_mayBe wsX7_isIn := goodIn_r _ [9] (by decide +kernel) (by decide +kernel)
set_option maxRecDepth 20000 in
theorem gX7_mayBe_X7_isIn : GoodIn wsX7_mayBe (va_wsS RX7 71 yX7_isIn wsX7_isIn) := goodIn_app (goodIn_of _ (by decide +kernel)) ggX7_mayBe_X7_isIn
theorem dX7_mayBe_0 : decode cX7_mayBe 0 = .ok (.iload_n 0, 1) := by decide +kernel
theorem dX7_mayBe_1 : decode cX7_mayBe 1 = .ok (.tableswitch 87 1 5 #[35, 45, 57, 67, 77], 35) := by decide +kernel
theorem dX7_mayBe_36 : decode cX7_mayBe 36 = .ok (.iload_n 1, 1) := by decide +kernel
theorem dX7_mayBe_37 : decode cX7_mayBe 37 = .ok (.i2l, 1) := by decide +kernel
theorem dX7_mayBe_38 : decode cX7_mayBe 38 = .ok (.lconst 1, 1) := by decide +kernel
theorem dX7_mayBe_39 : decode cX7_mayBe 39 = .ok (.ldc2_w 84, 3) := by decide +kernel
theorem dX7_mayBe_42 : decode cX7_mayBe 42 = .ok (.invokestatic 71, 3) := by decide +kernel
theorem dX7_mayBe_45 : decode cX7_mayBe 45 = .ok (.ireturn, 1) := by decide +kernel
theorem dX7_mayBe_46 : decode cX7_mayBe 46 = .ok (.iload_n 1, 1) := by decide +kernel
theorem dX7_mayBe_47 : decode cX7_mayBe 47 = .ok (.i2l, 1) := by decide +kernel
theorem dX7_mayBe_48 : decode cX7_mayBe 48 = .ok (.ldc2_w 86, 3) := by decide +kernel
theorem dX7_mayBe_51 : decode cX7_mayBe 51 = .ok (.ldc2_w 88, 3) := by decide +kernel
theorem dX7_mayBe_54 : decode cX7_mayBe 54 = .ok (.invokestatic 71, 3) := by decide +kernel
theorem dX7_mayBe_57 : decode cX7_mayBe 57 = .ok (.ireturn, 1) := by decide +kernel
theorem dX7_mayBe_58 : decode cX7_mayBe 58 = .ok (.iload_n 1, 1) := by decide +kernel
theorem dX7_mayBe_59 : decode cX7_mayBe 59 = .ok (.i2l, 1) := by decide +kernel
theorem dX7_mayBe_60 : decode cX7_mayBe 60 = .ok (.lconst 0, 1) := by decide +kernel
theorem dX7_mayBe_61 : decode cX7_mayBe 61 = .ok (.ldc2_w 84, 3) := by decide +kernel
theorem dX7_mayBe_64 : decode cX7_mayBe 64 = .ok (.invokestatic 71, 3) := by decide +kernel
theorem dX7_mayBe_67 : decode cX7_mayBe 67 = .ok (.ireturn, 1) := by decide +kernel
theorem dX7_mayBe_68 : decode cX7_mayBe 68 = .ok (.iload_n 1, 1) := by decide +kernel
theorem dX7_mayBe_69 : decode cX7_mayBe 69 = .ok (.i2l, 1) := by decide +kernel
theorem dX7_mayBe_70 : decode cX7_mayBe 70 = .ok (.lconst 0, 1) := by decide +kernel
theorem dX7_mayBe_71 : decode cX7_mayBe 71 = .ok (.ldc2_w 90, 3) := by decide +kernel
theorem dX7_mayBe_74 : decode cX7_mayBe 74 = .ok (.invokestatic 71, 3) := by decide +kernel
theorem dX7_mayBe_77 : decode cX7_mayBe 77 = .ok (.ireturn, 1) := by decide +kernel
theorem dX7_mayBe_78 : decode cX7_mayBe 78 = .ok (.iload_n 1, 1) := by decide +kernel
theorem dX7_mayBe_79 : decode cX7_mayBe 79 = .ok (.i2l, 1) := by decide +kernel
theorem dX7_mayBe_80 : decode cX7_mayBe 80 = .ok (.lconst 0, 1) := by decide +kernel
theorem dX7_mayBe_81 : decode cX7_mayBe 81 = .ok (.ldc2_w 92, 3) := by decide +kernel
theorem dX7_mayBe_84 : decode cX7_mayBe 84 = .ok (.invokestatic 71, 3) := by decide +kernel
theorem dX7_mayBe_87 : decode cX7_mayBe 87 = .ok (.ireturn, 1) := by decide +kernel
theorem dX7_mayBe_88 : decode cX7_mayBe 88 = .ok (.iconst 0, 1) := by decide +kernel
theorem dX7_mayBe_89 : decode cX7_mayBe 89 = .ok (.ireturn, 1) := by decide +kernel
set_option maxRecDepth 20000 in
theorem ggX7_house_X7_isIn : GoodIn wsX7_house wsX7_isIn := goodIn_r _ [8] (by decide +kernel) (by decide +kernel)
set_option maxRecDepth 20000 in
theorem gX7_house_X7_isIn : GoodIn wsX7_house (va_wsS RX7 71 yX7_isIn wsX7_isIn) := goodIn_app (goodIn_of _ (by decide +kernel)) ggX7_house_X7_isIn
set_option maxRecDepth 20000 in
theorem ggX7_house_X7_mayBe : GoodIn wsX7_house wsX7_mayBe := goodIn_r _ [11, 12, 13, 14, 15, 16, 5, 6, 7, 8] (by decide +kernel) (by decide +kernel)
set_option maxRecDepth 20000 in
theorem gX7_house_X7_mayBe : GoodIn wsX7_house (va_wsS RX7 96 yX7_mayBe wsX7_mayBe) := goodIn_app (goodIn_of _ (by decide +kernel)) ggX7_house_X7_mayBe
set_option maxRecDepth 20000 in
theorem ggX7_house_X7_comes : GoodIn wsX7_house wsX7_comes := goodIn_r _ [20, 3, 21, 22, 23, 7, 24, 25, 26, 27, 28, 29, 30, 31, 32, 33, 34, 35, 36, 37, 38, 39, 40, 41, 42, 43, 44, 45, 46, 47, 48, 49, 50, 51, 52, 53, 54, 55, 56, 57] (by decide +kernel) (by decide +kernel)
set_option maxRecDepth 20000 in
theorem gX7_house_X7_comes : GoodIn wsX7_house (wsV RX7 102 RX7 yX7_comes wsX7_comes) := goodIn_app (goodIn_of _ (by decide +kernel)) ggX7_house_X7_comes
theorem dX7_house_0 : decode cX7_house 0 = .ok (.iload_n 1, 1) := by decide +kernel
theorem dX7_house_1 : decode cX7_house 1 = .ok (.i2l, 1) := by decide +kernel
theorem dX7_house_2 : decode cX7_house 2 = .ok (.lconst 0, 1) := by decide +kernel
theorem dX7_house_3 : decode cX7_house 3 = .ok (.ldc2_w 94, 3) := by decide +kernel
theorem dX7_house_6 : decode cX7_house 6 = .ok (.invokestatic 71, 3) := by decide +kernel
theorem dX7_house_9 : decode cX7_house 9 = .ok (.ifCond .eq 28, 3) := by decide +kernel
theorem dX7_house_12 : decode cX7_house 12 = .ok (.iconst 1, 1) := by decide +kernel
theorem dX7_house_13 : decode cX7_house 13 = .ok (.iload_n 2, 1) := by decide +kernel
theorem dX7_house_14 : decode cX7_house 14 = .ok (.invokestatic 96, 3) := by decide +kernel
theorem dX7_house_17 : decode cX7_house 17 = .ok (.ifCond .eq 20, 3) := by decide +kernel
theorem dX7_house_20 : decode cX7_house 20 = .ok (.iconst 2, 1) := by decide +kernel
theorem dX7_house_21 : decode cX7_house 21 = .ok (.iload_n 3, 1) := by decide +kernel
theorem dX7_house_22 : decode cX7_house 22 = .ok (.invokestatic 96, 3) := by decide +kernel
theorem dX7_house_25 : decode cX7_house 25 = .ok (.ifCond .eq 12, 3) := by decide +kernel
theorem dX7_house_28 : decode cX7_house 28 = .ok (.iconst 3, 1) := by decide +kernel
theorem dX7_house_29 : decode cX7_house 29 = .ok (.iload 4, 2) := by decide +kernel
theorem dX7_house_31 : decode cX7_house 31 = .ok (.invokestatic 96, 3) := by decide +kernel
theorem dX7_house_34 : decode cX7_house 34 = .ok (.ifCond .ne 6, 3) := by decide +kernel
theorem dX7_house_37 : decode cX7_house 37 = .ok (.ldc 100, 2) := by decide +kernel
theorem dX7_house_39 : decode cX7_house 39 = .ok (.ireturn, 1) := by decide +kernel
theorem dX7_house_40 : decode cX7_house 40 = .ok (.aload_n 0, 1) := by decide +kernel
theorem dX7_house_41 : decode cX7_house 41 = .ok (.getfield 7, 3) := by decide +kernel
theorem dX7_house_44 : decode cX7_house 44 = .ok (.iconst 0, 1) := by decide +kernel
theorem dX7_house_45 : decode cX7_house 45 = .ok (.iaload, 1) := by decide +kernel
theorem dX7_house_46 : decode cX7_house 46 = .ok (.bipush 9, 2) := by decide +kernel
theorem dX7_house_48 : decode cX7_house 48 = .ok (.if_icmp .ne 6, 3) := by decide +kernel
theorem dX7_house_51 : decode cX7_house 51 = .ok (.ldc 101, 2) := by decide +kernel
theorem dX7_house_53 : decode cX7_house 53 = .ok (.ireturn, 1) := by decide +kernel
theorem dX7_house_54 : decode cX7_house 54 = .ok (.aload_n 0, 1) := by decide +kernel
theorem dX7_house_55 : decode cX7_house 55 = .ok (.iload_n 1, 1) := by decide +kernel
theorem dX7_house_56 : decode cX7_house 56 = .ok (.iload_n 2, 1) := by decide +kernel
theorem dX7_house_57 : decode cX7_house 57 = .ok (.iload_n 3, 1) := by decide +kernel
theorem dX7_house_58 : decode cX7_house 58 = .ok (.iload 4, 2) := by decide +kernel
theorem dX7_house_60 : decode cX7_house 60 = .ok (.invokevirtual 102, 3) := by decide +kernel
theorem dX7_house_63 : decode cX7_house 63 = .ok (.aload_n 0, 1) := by decide +kernel
theorem dX7_house_64 : decode cX7_house 64 = .ok (.getfield 7, 3) := by decide +kernel
theorem dX7_house_67 : decode cX7_house 67 = .ok (.iconst 0, 1) := by decide +kernel
theorem dX7_house_68 : decode cX7_house 68 = .ok (.iaload, 1) := by decide +kernel
theorem dX7_house_69 : decode cX7_house 69 = .ok (.iconst 1, 1) := by decide +kernel
theorem dX7_house_70 : decode cX7_house 70 = .ok (.isub, 1) := by decide +kernel
theorem dX7_house_71 : decode cX7_house 71 = .ok (.ireturn, 1) := by decide +kernel
set_option maxRecDepth 20000 in
theorem ggX7_pushes_X7_of : GoodIn wsX7_pushes wsX7_of := goodIn_r _ [6, 7, 30, 31, 32, 33, 34, 35, 36, 37, 38, 39, 40, 41, 42, 43, 44, 45, 46, 47, 48, 49, 50, 51, 52, 53, 54, 55, 56, 57, 58, 59, 60, 61, 62] (by decide +kernel) (by decide +kernel)
set_option maxRecDepth 20000 in
theorem gX7_pushes_X7_of : GoodIn wsX7_pushes (wsV RX7 75 RX7 yX7_of wsX7_of) := goodIn_app (goodIn_of _ (by decide +kernel)) ggX7_pushes_X7_of
set_option maxRecDepth 20000 in
theorem ggX7_pushes_X7_off : GoodIn wsX7_pushes wsX7_off := goodIn_r _ [10] (by decide +kernel) (by decide +kernel)
set_option maxRecDepth 20000 in
theorem gX7_pushes_X7_off : GoodIn wsX7_pushes (va_wsS RX7 106 yX7_off wsX7_off) := goodIn_app (goodIn_of _ (by decide +kernel)) ggX7_pushes_X7_off
set_option maxRecDepth 20000 in
theorem ggX7_pushes_X7_counts : GoodIn wsX7_pushes wsX7_counts := goodIn_r _ [14, 7, 15, 16, 17, 5, 18, 30, 31, 32, 33, 34, 35, 36, 37, 38, 39, 40, 41, 42, 43, 44, 45, 46, 47, 48, 49, 50, 51, 52, 53, 54, 55, 56, 57, 58, 59, 60, 61, 62] (by decide +kernel) (by decide +kernel)
set_option maxRecDepth 20000 in
theorem gX7_pushes_X7_counts : GoodIn wsX7_pushes (wsV RX7 109 RX7 yX7_counts wsX7_counts) := goodIn_app (goodIn_of _ (by decide +kernel)) ggX7_pushes_X7_counts
set_option maxRecDepth 20000 in
theorem ggX7_pushes_X7_worked : GoodIn wsX7_pushes wsX7_worked := goodIn_r _ [22, 7, 23, 1, 15, 16, 17, 5, 18, 24, 25, 26, 30, 31, 32, 33, 34, 35, 36, 37, 38, 39, 40, 41, 42, 43, 44, 45, 46, 47, 48, 49, 50, 51, 52, 53, 54, 55, 56, 57, 58, 59, 60, 61, 62] (by decide +kernel) (by decide +kernel)
set_option maxRecDepth 20000 in
theorem gX7_pushes_X7_worked : GoodIn wsX7_pushes (wsV RX7 113 RX7 yX7_worked wsX7_worked) := goodIn_app (goodIn_of _ (by decide +kernel)) ggX7_pushes_X7_worked
set_option maxRecDepth 20000 in
theorem ggX7_pushes_X7_held : GoodIn wsX7_pushes wsX7_held := goodIn_r _ [29] (by decide +kernel) (by decide +kernel)
set_option maxRecDepth 20000 in
theorem gX7_pushes_X7_held : GoodIn wsX7_pushes (va_wsS RX7 116 yX7_held wsX7_held) := goodIn_app (goodIn_of _ (by decide +kernel)) ggX7_pushes_X7_held
theorem dX7_pushes_0 : decode cX7_pushes 0 = .ok (.aload_n 0, 1) := by decide +kernel
theorem dX7_pushes_1 : decode cX7_pushes 1 = .ok (.iload_n 1, 1) := by decide +kernel
theorem dX7_pushes_2 : decode cX7_pushes 2 = .ok (.iconst 2, 1) := by decide +kernel
theorem dX7_pushes_3 : decode cX7_pushes 3 = .ok (.invokevirtual 75, 3) := by decide +kernel
theorem dX7_pushes_6 : decode cX7_pushes 6 = .ok (.iconst 0, 1) := by decide +kernel
theorem dX7_pushes_7 : decode cX7_pushes 7 = .ok (.invokestatic 106, 3) := by decide +kernel
theorem dX7_pushes_10 : decode cX7_pushes 10 = .ok (.istore_n 2, 1) := by decide +kernel
theorem dX7_pushes_11 : decode cX7_pushes 11 = .ok (.aload_n 0, 1) := by decide +kernel
theorem dX7_pushes_12 : decode cX7_pushes 12 = .ok (.iload_n 1, 1) := by decide +kernel
theorem dX7_pushes_13 : decode cX7_pushes 13 = .ok (.iconst 1, 1) := by decide +kernel
theorem dX7_pushes_14 : decode cX7_pushes 14 = .ok (.invokevirtual 75, 3) := by decide +kernel
theorem dX7_pushes_17 : decode cX7_pushes 17 = .ok (.iload_n 2, 1) := by decide +kernel
theorem dX7_pushes_18 : decode cX7_pushes 18 = .ok (.imul, 1) := by decide +kernel
theorem dX7_pushes_19 : decode cX7_pushes 19 = .ok (.bipush 10, 2) := by decide +kernel
theorem dX7_pushes_21 : decode cX7_pushes 21 = .ok (.idiv, 1) := by decide +kernel
theorem dX7_pushes_22 : decode cX7_pushes 22 = .ok (.istore_n 3, 1) := by decide +kernel
theorem dX7_pushes_23 : decode cX7_pushes 23 = .ok (.aload_n 0, 1) := by decide +kernel
theorem dX7_pushes_24 : decode cX7_pushes 24 = .ok (.iconst 0, 1) := by decide +kernel
theorem dX7_pushes_25 : decode cX7_pushes 25 = .ok (.invokevirtual 109, 3) := by decide +kernel
theorem dX7_pushes_28 : decode cX7_pushes 28 = .ok (.istore 4, 2) := by decide +kernel
theorem dX7_pushes_30 : decode cX7_pushes 30 = .ok (.iload 4, 2) := by decide +kernel
theorem dX7_pushes_32 : decode cX7_pushes 32 = .ok (.ifCond .lt 51, 3) := by decide +kernel
theorem dX7_pushes_35 : decode cX7_pushes 35 = .ok (.aload_n 0, 1) := by decide +kernel
theorem dX7_pushes_36 : decode cX7_pushes 36 = .ok (.getfield 55, 3) := by decide +kernel
theorem dX7_pushes_39 : decode cX7_pushes 39 = .ok (.bipush 119, 2) := by decide +kernel
theorem dX7_pushes_41 : decode cX7_pushes 41 = .ok (.aload_n 0, 1) := by decide +kernel
theorem dX7_pushes_42 : decode cX7_pushes 42 = .ok (.iload_n 1, 1) := by decide +kernel
theorem dX7_pushes_43 : decode cX7_pushes 43 = .ok (.iconst 1, 1) := by decide +kernel
theorem dX7_pushes_44 : decode cX7_pushes 44 = .ok (.invokevirtual 75, 3) := by decide +kernel
theorem dX7_pushes_47 : decode cX7_pushes 47 = .ok (.iastore, 1) := by decide +kernel
theorem dX7_pushes_48 : decode cX7_pushes 48 = .ok (.aload_n 0, 1) := by decide +kernel
theorem dX7_pushes_49 : decode cX7_pushes 49 = .ok (.getfield 55, 3) := by decide +kernel
theorem dX7_pushes_52 : decode cX7_pushes 52 = .ok (.bipush 108, 2) := by decide +kernel
theorem dX7_pushes_54 : decode cX7_pushes 54 = .ok (.iload_n 2, 1) := by decide +kernel
theorem dX7_pushes_55 : decode cX7_pushes 55 = .ok (.iastore, 1) := by decide +kernel
theorem dX7_pushes_56 : decode cX7_pushes 56 = .ok (.aload_n 0, 1) := by decide +kernel
theorem dX7_pushes_57 : decode cX7_pushes 57 = .ok (.getfield 55, 3) := by decide +kernel
theorem dX7_pushes_60 : decode cX7_pushes 60 = .ok (.bipush 99, 2) := by decide +kernel
theorem dX7_pushes_62 : decode cX7_pushes 62 = .ok (.aload_n 0, 1) := by decide +kernel
theorem dX7_pushes_63 : decode cX7_pushes 63 = .ok (.iload_n 1, 1) := by decide +kernel
theorem dX7_pushes_64 : decode cX7_pushes 64 = .ok (.iconst 4, 1) := by decide +kernel
theorem dX7_pushes_65 : decode cX7_pushes 65 = .ok (.invokevirtual 75, 3) := by decide +kernel
theorem dX7_pushes_68 : decode cX7_pushes 68 = .ok (.iastore, 1) := by decide +kernel
theorem dX7_pushes_69 : decode cX7_pushes 69 = .ok (.aload_n 0, 1) := by decide +kernel
theorem dX7_pushes_70 : decode cX7_pushes 70 = .ok (.iload 4, 2) := by decide +kernel
theorem dX7_pushes_72 : decode cX7_pushes 72 = .ok (.invokevirtual 113, 3) := by decide +kernel
theorem dX7_pushes_75 : decode cX7_pushes 75 = .ok (.iconst 0, 1) := by decide +kernel
theorem dX7_pushes_76 : decode cX7_pushes 76 = .ok (.sipush 999, 3) := by decide +kernel
theorem dX7_pushes_79 : decode cX7_pushes 79 = .ok (.invokestatic 116, 3) := by decide +kernel
theorem dX7_pushes_82 : decode cX7_pushes 82 = .ok (.istore_n 3, 1) := by decide +kernel
theorem dX7_pushes_83 : decode cX7_pushes 83 = .ok (.aload_n 0, 1) := by decide +kernel
theorem dX7_pushes_84 : decode cX7_pushes 84 = .ok (.iload_n 1, 1) := by decide +kernel
theorem dX7_pushes_85 : decode cX7_pushes 85 = .ok (.iconst 0, 1) := by decide +kernel
theorem dX7_pushes_86 : decode cX7_pushes 86 = .ok (.invokevirtual 75, 3) := by decide +kernel
theorem dX7_pushes_89 : decode cX7_pushes 89 = .ok (.tableswitch 68 1 5 #[35, 39, 43, 60, 66], 35) := by decide +kernel
theorem dX7_pushes_124 : decode cX7_pushes 124 = .ok (.iload_n 3, 1) := by decide +kernel
theorem dX7_pushes_125 : decode cX7_pushes 125 = .ok (.iconst 2, 1) := by decide +kernel
theorem dX7_pushes_126 : decode cX7_pushes 126 = .ok (.idiv, 1) := by decide +kernel
theorem dX7_pushes_127 : decode cX7_pushes 127 = .ok (.ireturn, 1) := by decide +kernel
theorem dX7_pushes_128 : decode cX7_pushes 128 = .ok (.iload_n 3, 1) := by decide +kernel
theorem dX7_pushes_129 : decode cX7_pushes 129 = .ok (.iconst 4, 1) := by decide +kernel
theorem dX7_pushes_130 : decode cX7_pushes 130 = .ok (.iadd, 1) := by decide +kernel
theorem dX7_pushes_131 : decode cX7_pushes 131 = .ok (.ireturn, 1) := by decide +kernel
theorem dX7_pushes_132 : decode cX7_pushes 132 = .ok (.iload_n 3, 1) := by decide +kernel
theorem dX7_pushes_133 : decode cX7_pushes 133 = .ok (.iconst 2, 1) := by decide +kernel
theorem dX7_pushes_134 : decode cX7_pushes 134 = .ok (.idiv, 1) := by decide +kernel
theorem dX7_pushes_135 : decode cX7_pushes 135 = .ok (.iconst 5, 1) := by decide +kernel
theorem dX7_pushes_136 : decode cX7_pushes 136 = .ok (.if_icmp .le 11, 3) := by decide +kernel
theorem dX7_pushes_139 : decode cX7_pushes 139 = .ok (.iload_n 3, 1) := by decide +kernel
theorem dX7_pushes_140 : decode cX7_pushes 140 = .ok (.iconst 2, 1) := by decide +kernel
theorem dX7_pushes_141 : decode cX7_pushes 141 = .ok (.idiv, 1) := by decide +kernel
theorem dX7_pushes_142 : decode cX7_pushes 142 = .ok (.iconst 5, 1) := by decide +kernel
theorem dX7_pushes_143 : decode cX7_pushes 143 = .ok (.isub, 1) := by decide +kernel
theorem dX7_pushes_144 : decode cX7_pushes 144 = .ok (.goto 4, 3) := by decide +kernel
theorem dX7_pushes_147 : decode cX7_pushes 147 = .ok (.iconst 0, 1) := by decide +kernel
theorem dX7_pushes_148 : decode cX7_pushes 148 = .ok (.ireturn, 1) := by decide +kernel
theorem dX7_pushes_149 : decode cX7_pushes 149 = .ok (.iconst 2, 1) := by decide +kernel
theorem dX7_pushes_150 : decode cX7_pushes 150 = .ok (.iload_n 3, 1) := by decide +kernel
theorem dX7_pushes_151 : decode cX7_pushes 151 = .ok (.iconst 4, 1) := by decide +kernel
theorem dX7_pushes_152 : decode cX7_pushes 152 = .ok (.iadd, 1) := by decide +kernel
theorem dX7_pushes_153 : decode cX7_pushes 153 = .ok (.imul, 1) := by decide +kernel
theorem dX7_pushes_154 : decode cX7_pushes 154 = .ok (.ireturn, 1) := by decide +kernel
theorem dX7_pushes_155 : decode cX7_pushes 155 = .ok (.iconst 0, 1) := by decide +kernel
theorem dX7_pushes_156 : decode cX7_pushes 156 = .ok (.ireturn, 1) := by decide +kernel
theorem dX7_pushes_157 : decode cX7_pushes 157 = .ok (.iload_n 3, 1) := by decide +kernel
theorem dX7_pushes_158 : decode cX7_pushes 158 = .ok (.ireturn, 1) := by decide +kernel
set_option maxRecDepth 20000 in
theorem ggX7_bears_X7_of : GoodIn wsX7_bears wsX7_of := goodIn_r _ [5, 6, 7, 8, 9, 10, 11, 12, 13, 14, 15, 16, 17, 18, 19, 20, 21, 22, 23, 24, 25, 26, 27, 28, 29, 30, 31, 32, 33, 34, 35, 36, 37, 38, 39] (by decide +kernel) (by decide +kernel)
set_option maxRecDepth 20000 in
theorem gX7_bears_X7_of : GoodIn wsX7_bears (wsV RX7 75 RX7 yX7_of wsX7_of) := goodIn_app (goodIn_of _ (by decide +kernel)) ggX7_bears_X7_of
theorem dX7_bears_0 : decode cX7_bears 0 = .ok (.aload_n 0, 1) := by decide +kernel
theorem dX7_bears_1 : decode cX7_bears 1 = .ok (.iload_n 1, 1) := by decide +kernel
theorem dX7_bears_2 : decode cX7_bears 2 = .ok (.iconst 3, 1) := by decide +kernel
theorem dX7_bears_3 : decode cX7_bears 3 = .ok (.invokevirtual 75, 3) := by decide +kernel
theorem dX7_bears_6 : decode cX7_bears 6 = .ok (.bipush 10, 2) := by decide +kernel
theorem dX7_bears_8 : decode cX7_bears 8 = .ok (.aload_n 0, 1) := by decide +kernel
theorem dX7_bears_9 : decode cX7_bears 9 = .ok (.iload_n 1, 1) := by decide +kernel
theorem dX7_bears_10 : decode cX7_bears 10 = .ok (.iconst 5, 1) := by decide +kernel
theorem dX7_bears_11 : decode cX7_bears 11 = .ok (.invokevirtual 75, 3) := by decide +kernel
theorem dX7_bears_14 : decode cX7_bears 14 = .ok (.imul, 1) := by decide +kernel
theorem dX7_bears_15 : decode cX7_bears 15 = .ok (.iadd, 1) := by decide +kernel
theorem dX7_bears_16 : decode cX7_bears 16 = .ok (.istore_n 2, 1) := by decide +kernel
theorem dX7_bears_17 : decode cX7_bears 17 = .ok (.aload_n 0, 1) := by decide +kernel
theorem dX7_bears_18 : decode cX7_bears 18 = .ok (.iload_n 1, 1) := by decide +kernel
theorem dX7_bears_19 : decode cX7_bears 19 = .ok (.iconst 0, 1) := by decide +kernel
theorem dX7_bears_20 : decode cX7_bears 20 = .ok (.invokevirtual 75, 3) := by decide +kernel
theorem dX7_bears_23 : decode cX7_bears 23 = .ok (.tableswitch 45 1 5 #[33, 37, 33, 37, 41], 33) := by decide +kernel
theorem dX7_bears_56 : decode cX7_bears 56 = .ok (.iload_n 2, 1) := by decide +kernel
theorem dX7_bears_57 : decode cX7_bears 57 = .ok (.iconst 5, 1) := by decide +kernel
theorem dX7_bears_58 : decode cX7_bears 58 = .ok (.iadd, 1) := by decide +kernel
theorem dX7_bears_59 : decode cX7_bears 59 = .ok (.ireturn, 1) := by decide +kernel
theorem dX7_bears_60 : decode cX7_bears 60 = .ok (.iconst 2, 1) := by decide +kernel
theorem dX7_bears_61 : decode cX7_bears 61 = .ok (.iload_n 2, 1) := by decide +kernel
theorem dX7_bears_62 : decode cX7_bears 62 = .ok (.imul, 1) := by decide +kernel
theorem dX7_bears_63 : decode cX7_bears 63 = .ok (.ireturn, 1) := by decide +kernel
theorem dX7_bears_64 : decode cX7_bears 64 = .ok (.sipush 999, 3) := by decide +kernel
theorem dX7_bears_67 : decode cX7_bears 67 = .ok (.ireturn, 1) := by decide +kernel
theorem dX7_bears_68 : decode cX7_bears 68 = .ok (.iload_n 2, 1) := by decide +kernel
theorem dX7_bears_69 : decode cX7_bears 69 = .ok (.ireturn, 1) := by decide +kernel
set_option maxRecDepth 20000 in
theorem ggX7_worth_X7_of : GoodIn wsX7_worth wsX7_of := goodIn_r _ [5, 6, 7, 8, 9, 10, 11, 12, 13, 14, 15, 16, 17, 18, 19, 20, 21, 22, 23, 24, 25, 26, 27, 28, 29, 30, 31, 32, 33, 34, 35, 36, 37, 38, 39] (by decide +kernel) (by decide +kernel)
set_option maxRecDepth 20000 in
theorem gX7_worth_X7_of : GoodIn wsX7_worth (wsV RX7 75 RX7 yX7_of wsX7_of) := goodIn_app (goodIn_of _ (by decide +kernel)) ggX7_worth_X7_of
theorem dX7_worth_0 : decode cX7_worth 0 = .ok (.aload_n 0, 1) := by decide +kernel
theorem dX7_worth_1 : decode cX7_worth 1 = .ok (.iload_n 1, 1) := by decide +kernel
theorem dX7_worth_2 : decode cX7_worth 2 = .ok (.iconst 3, 1) := by decide +kernel
theorem dX7_worth_3 : decode cX7_worth 3 = .ok (.invokevirtual 75, 3) := by decide +kernel
theorem dX7_worth_6 : decode cX7_worth 6 = .ok (.istore_n 2, 1) := by decide +kernel
theorem dX7_worth_7 : decode cX7_worth 7 = .ok (.aload_n 0, 1) := by decide +kernel
theorem dX7_worth_8 : decode cX7_worth 8 = .ok (.iload_n 1, 1) := by decide +kernel
theorem dX7_worth_9 : decode cX7_worth 9 = .ok (.iconst 0, 1) := by decide +kernel
theorem dX7_worth_10 : decode cX7_worth 10 = .ok (.invokevirtual 75, 3) := by decide +kernel
theorem dX7_worth_13 : decode cX7_worth 13 = .ok (.tableswitch 60 1 5 #[35, 40, 45, 52, 57], 35) := by decide +kernel
theorem dX7_worth_48 : decode cX7_worth 48 = .ok (.iload_n 2, 1) := by decide +kernel
theorem dX7_worth_49 : decode cX7_worth 49 = .ok (.bipush 7, 2) := by decide +kernel
theorem dX7_worth_51 : decode cX7_worth 51 = .ok (.iadd, 1) := by decide +kernel
theorem dX7_worth_52 : decode cX7_worth 52 = .ok (.ireturn, 1) := by decide +kernel
theorem dX7_worth_53 : decode cX7_worth 53 = .ok (.bipush 99, 2) := by decide +kernel
theorem dX7_worth_55 : decode cX7_worth 55 = .ok (.iload_n 2, 1) := by decide +kernel
theorem dX7_worth_56 : decode cX7_worth 56 = .ok (.isub, 1) := by decide +kernel
theorem dX7_worth_57 : decode cX7_worth 57 = .ok (.ireturn, 1) := by decide +kernel
theorem dX7_worth_58 : decode cX7_worth 58 = .ok (.iconst 2, 1) := by decide +kernel
theorem dX7_worth_59 : decode cX7_worth 59 = .ok (.iload_n 2, 1) := by decide +kernel
theorem dX7_worth_60 : decode cX7_worth 60 = .ok (.bipush 7, 2) := by decide +kernel
theorem dX7_worth_62 : decode cX7_worth 62 = .ok (.iadd, 1) := by decide +kernel
theorem dX7_worth_63 : decode cX7_worth 63 = .ok (.imul, 1) := by decide +kernel
theorem dX7_worth_64 : decode cX7_worth 64 = .ok (.ireturn, 1) := by decide +kernel
theorem dX7_worth_65 : decode cX7_worth 65 = .ok (.bipush 94, 2) := by decide +kernel
theorem dX7_worth_67 : decode cX7_worth 67 = .ok (.iload_n 2, 1) := by decide +kernel
theorem dX7_worth_68 : decode cX7_worth 68 = .ok (.isub, 1) := by decide +kernel
theorem dX7_worth_69 : decode cX7_worth 69 = .ok (.ireturn, 1) := by decide +kernel
theorem dX7_worth_70 : decode cX7_worth 70 = .ok (.bipush 6, 2) := by decide +kernel
theorem dX7_worth_72 : decode cX7_worth 72 = .ok (.ireturn, 1) := by decide +kernel
theorem dX7_worth_73 : decode cX7_worth 73 = .ok (.iload_n 2, 1) := by decide +kernel
theorem dX7_worth_74 : decode cX7_worth 74 = .ok (.ireturn, 1) := by decide +kernel
set_option maxRecDepth 20000 in
theorem ggX7_allStanding_X7_stands : GoodIn wsX7_allStanding wsX7_stands := goodIn_r _ [6, 7, 8, 9, 5, 10, 1, 11, 12, 13, 14, 15, 16, 17, 18, 19, 20, 21, 22, 23, 24, 25, 26, 27, 28, 29, 30, 31, 32, 33, 34, 35, 36, 37, 38, 39, 40, 41, 42, 43] (by decide +kernel) (by decide +kernel)
set_option maxRecDepth 20000 in
theorem gX7_allStanding_X7_stands : GoodIn wsX7_allStanding (wsV RX7 119 RX7 yX7_stands wsX7_stands) := goodIn_app (goodIn_of _ (by decide +kernel)) ggX7_allStanding_X7_stands
theorem dX7_allStanding_0 : decode cX7_allStanding 0 = .ok (.iconst 0, 1) := by decide +kernel
theorem dX7_allStanding_1 : decode cX7_allStanding 1 = .ok (.istore_n 1, 1) := by decide +kernel
theorem dX7_allStanding_2 : decode cX7_allStanding 2 = .ok (.iconst 0, 1) := by decide +kernel
theorem dX7_allStanding_3 : decode cX7_allStanding 3 = .ok (.istore_n 2, 1) := by decide +kernel
theorem dX7_allStanding_4 : decode cX7_allStanding 4 = .ok (.iload_n 2, 1) := by decide +kernel
theorem dX7_allStanding_5 : decode cX7_allStanding 5 = .ok (.aload_n 0, 1) := by decide +kernel
theorem dX7_allStanding_6 : decode cX7_allStanding 6 = .ok (.getfield 7, 3) := by decide +kernel
theorem dX7_allStanding_9 : decode cX7_allStanding 9 = .ok (.iconst 0, 1) := by decide +kernel
theorem dX7_allStanding_10 : decode cX7_allStanding 10 = .ok (.iaload, 1) := by decide +kernel
theorem dX7_allStanding_11 : decode cX7_allStanding 11 = .ok (.if_icmp .ge 27, 3) := by decide +kernel
theorem dX7_allStanding_14 : decode cX7_allStanding 14 = .ok (.iload_n 1, 1) := by decide +kernel
theorem dX7_allStanding_15 : decode cX7_allStanding 15 = .ok (.aload_n 0, 1) := by decide +kernel
theorem dX7_allStanding_16 : decode cX7_allStanding 16 = .ok (.iload_n 2, 1) := by decide +kernel
theorem dX7_allStanding_17 : decode cX7_allStanding 17 = .ok (.invokevirtual 119, 3) := by decide +kernel
theorem dX7_allStanding_20 : decode cX7_allStanding 20 = .ok (.ifCond .eq 9, 3) := by decide +kernel
theorem dX7_allStanding_23 : decode cX7_allStanding 23 = .ok (.iconst 1, 1) := by decide +kernel
theorem dX7_allStanding_24 : decode cX7_allStanding 24 = .ok (.iload_n 2, 1) := by decide +kernel
theorem dX7_allStanding_25 : decode cX7_allStanding 25 = .ok (.ishl, 1) := by decide +kernel
theorem dX7_allStanding_26 : decode cX7_allStanding 26 = .ok (.goto 4, 3) := by decide +kernel
theorem dX7_allStanding_29 : decode cX7_allStanding 29 = .ok (.iconst 0, 1) := by decide +kernel
theorem dX7_allStanding_30 : decode cX7_allStanding 30 = .ok (.ior, 1) := by decide +kernel
theorem dX7_allStanding_31 : decode cX7_allStanding 31 = .ok (.istore_n 1, 1) := by decide +kernel
theorem dX7_allStanding_32 : decode cX7_allStanding 32 = .ok (.iinc 2 1, 3) := by decide +kernel
theorem dX7_allStanding_35 : decode cX7_allStanding 35 = .ok (.goto (-31), 3) := by decide +kernel
theorem dX7_allStanding_38 : decode cX7_allStanding 38 = .ok (.iload_n 1, 1) := by decide +kernel
theorem dX7_allStanding_39 : decode cX7_allStanding 39 = .ok (.ireturn, 1) := by decide +kernel
theorem dX7_nextOf_0 : decode cX7_nextOf 0 = .ok (.iload_n 1, 1) := by decide +kernel
theorem dX7_nextOf_1 : decode cX7_nextOf 1 = .ok (.iload_n 2, 1) := by decide +kernel
theorem dX7_nextOf_2 : decode cX7_nextOf 2 = .ok (.iadd, 1) := by decide +kernel
theorem dX7_nextOf_3 : decode cX7_nextOf 3 = .ok (.istore 4, 2) := by decide +kernel
theorem dX7_nextOf_5 : decode cX7_nextOf 5 = .ok (.iload 4, 2) := by decide +kernel
theorem dX7_nextOf_7 : decode cX7_nextOf 7 = .ok (.ifCond .lt 32, 3) := by decide +kernel
theorem dX7_nextOf_10 : decode cX7_nextOf 10 = .ok (.iload 4, 2) := by decide +kernel
theorem dX7_nextOf_12 : decode cX7_nextOf 12 = .ok (.aload_n 0, 1) := by decide +kernel
theorem dX7_nextOf_13 : decode cX7_nextOf 13 = .ok (.getfield 7, 3) := by decide +kernel
theorem dX7_nextOf_16 : decode cX7_nextOf 16 = .ok (.iconst 0, 1) := by decide +kernel
theorem dX7_nextOf_17 : decode cX7_nextOf 17 = .ok (.iaload, 1) := by decide +kernel
theorem dX7_nextOf_18 : decode cX7_nextOf 18 = .ok (.if_icmp .ge 21, 3) := by decide +kernel
theorem dX7_nextOf_21 : decode cX7_nextOf 21 = .ok (.iload_n 3, 1) := by decide +kernel
theorem dX7_nextOf_22 : decode cX7_nextOf 22 = .ok (.iload 4, 2) := by decide +kernel
theorem dX7_nextOf_24 : decode cX7_nextOf 24 = .ok (.ishr, 1) := by decide +kernel
theorem dX7_nextOf_25 : decode cX7_nextOf 25 = .ok (.iconst 1, 1) := by decide +kernel
theorem dX7_nextOf_26 : decode cX7_nextOf 26 = .ok (.iand, 1) := by decide +kernel
theorem dX7_nextOf_27 : decode cX7_nextOf 27 = .ok (.ifCond .ne 12, 3) := by decide +kernel
theorem dX7_nextOf_30 : decode cX7_nextOf 30 = .ok (.iload 4, 2) := by decide +kernel
theorem dX7_nextOf_32 : decode cX7_nextOf 32 = .ok (.iload_n 2, 1) := by decide +kernel
theorem dX7_nextOf_33 : decode cX7_nextOf 33 = .ok (.iadd, 1) := by decide +kernel
theorem dX7_nextOf_34 : decode cX7_nextOf 34 = .ok (.istore 4, 2) := by decide +kernel
theorem dX7_nextOf_36 : decode cX7_nextOf 36 = .ok (.goto (-31), 3) := by decide +kernel
theorem dX7_nextOf_39 : decode cX7_nextOf 39 = .ok (.iload 4, 2) := by decide +kernel
theorem dX7_nextOf_41 : decode cX7_nextOf 41 = .ok (.ifCond .lt 19, 3) := by decide +kernel
theorem dX7_nextOf_44 : decode cX7_nextOf 44 = .ok (.iload 4, 2) := by decide +kernel
theorem dX7_nextOf_46 : decode cX7_nextOf 46 = .ok (.aload_n 0, 1) := by decide +kernel
theorem dX7_nextOf_47 : decode cX7_nextOf 47 = .ok (.getfield 7, 3) := by decide +kernel
theorem dX7_nextOf_50 : decode cX7_nextOf 50 = .ok (.iconst 0, 1) := by decide +kernel
theorem dX7_nextOf_51 : decode cX7_nextOf 51 = .ok (.iaload, 1) := by decide +kernel
theorem dX7_nextOf_52 : decode cX7_nextOf 52 = .ok (.if_icmp .ge 8, 3) := by decide +kernel
theorem dX7_nextOf_55 : decode cX7_nextOf 55 = .ok (.iload 4, 2) := by decide +kernel
theorem dX7_nextOf_57 : decode cX7_nextOf 57 = .ok (.goto 4, 3) := by decide +kernel
theorem dX7_nextOf_60 : decode cX7_nextOf 60 = .ok (.iconst (-1), 1) := by decide +kernel
theorem dX7_nextOf_61 : decode cX7_nextOf 61 = .ok (.ireturn, 1) := by decide +kernel
set_option maxRecDepth 20000 in
theorem ggX7_thrust_X7_stands : GoodIn wsX7_thrust wsX7_stands := goodIn_r _ [6, 7, 8, 9, 5, 10, 1, 46, 47, 48, 49, 50, 51, 52, 53, 54, 55, 56, 57, 58, 59, 60, 61, 62, 63, 64, 65, 66, 67, 68, 69, 70, 71, 72, 73, 74, 75, 76, 77, 78] (by decide +kernel) (by decide +kernel)
set_option maxRecDepth 20000 in
theorem gX7_thrust_X7_stands : GoodIn wsX7_thrust (wsV RX7 119 RX7 yX7_stands wsX7_stands) := goodIn_app (goodIn_of _ (by decide +kernel)) ggX7_thrust_X7_stands
set_option maxRecDepth 20000 in
theorem ggX7_thrust_X7_allStanding : GoodIn wsX7_thrust wsX7_allStanding := goodIn_r _ [14, 1, 2, 3, 4, 5, 6, 7, 8, 9, 10, 46, 47, 48, 49, 50, 51, 52, 53, 54, 55, 56, 57, 58, 59, 60, 61, 62, 63, 64, 65, 66, 67, 68, 69, 70, 71, 72, 73, 74, 75, 76, 77, 78] (by decide +kernel) (by decide +kernel)
set_option maxRecDepth 20000 in
theorem gX7_thrust_X7_allStanding : GoodIn wsX7_thrust (wsV RX7 123 RX7 yX7_allStanding wsX7_allStanding) := goodIn_app (goodIn_of _ (by decide +kernel)) ggX7_thrust_X7_allStanding
set_option maxRecDepth 20000 in
theorem ggX7_thrust_X7_nextOf : GoodIn wsX7_thrust wsX7_nextOf := goodIn_r _ [18, 1, 46, 47, 48, 49, 50, 51, 52, 53, 54, 55, 56, 57, 58, 59, 60, 61, 62, 63, 64, 65, 66, 67, 68, 69, 70, 71, 72, 73, 74, 75, 76, 77, 78] (by decide +kernel) (by decide +kernel)
set_option maxRecDepth 20000 in
theorem gX7_thrust_X7_nextOf : GoodIn wsX7_thrust (wsV RX7 127 RX7 yX7_nextOf wsX7_nextOf) := goodIn_app (goodIn_of _ (by decide +kernel)) ggX7_thrust_X7_nextOf
set_option maxRecDepth 20000 in
theorem ggX7_thrust_X7_of : GoodIn wsX7_thrust wsX7_of := goodIn_r _ [10, 1, 46, 47, 48, 49, 50, 51, 52, 53, 54, 55, 56, 57, 58, 59, 60, 61, 62, 63, 64, 65, 66, 67, 68, 69, 70, 71, 72, 73, 74, 75, 76, 77, 78] (by decide +kernel) (by decide +kernel)
set_option maxRecDepth 20000 in
theorem gX7_thrust_X7_of : GoodIn wsX7_thrust (wsV RX7 75 RX7 yX7_of wsX7_of) := goodIn_app (goodIn_of _ (by decide +kernel)) ggX7_thrust_X7_of
set_option maxRecDepth 20000 in
theorem ggX7_thrust_X7_pushes : GoodIn wsX7_thrust wsX7_pushes := goodIn_r _ [22, 23, 7, 8, 9, 5, 10, 1, 24, 25, 26, 27, 28, 29, 30, 31, 32, 33, 34, 35, 36, 37, 38, 39, 40, 41, 42, 43, 44, 45, 46, 47, 48, 49, 50, 51, 52, 53, 54, 55, 56, 57, 58, 59, 60, 61, 62, 63, 64, 65, 66, 67, 68, 69, 70, 71, 72, 73, 74, 75, 76, 77, 78] (by decide +kernel) (by decide +kernel)
set_option maxRecDepth 20000 in
theorem gX7_thrust_X7_pushes : GoodIn wsX7_thrust (wsV RX7 130 RX7 yX7_pushes wsX7_pushes) := goodIn_app (goodIn_of _ (by decide +kernel)) ggX7_thrust_X7_pushes
theorem dX7_thrust_0 : decode cX7_thrust 0 = .ok (.aload_n 0, 1) := by decide +kernel
theorem dX7_thrust_1 : decode cX7_thrust 1 = .ok (.iload_n 1, 1) := by decide +kernel
theorem dX7_thrust_2 : decode cX7_thrust 2 = .ok (.invokevirtual 119, 3) := by decide +kernel
theorem dX7_thrust_5 : decode cX7_thrust 5 = .ok (.ifCond .ne 5, 3) := by decide +kernel
theorem dX7_thrust_8 : decode cX7_thrust 8 = .ok (.iconst 0, 1) := by decide +kernel
theorem dX7_thrust_9 : decode cX7_thrust 9 = .ok (.ireturn, 1) := by decide +kernel
theorem dX7_thrust_10 : decode cX7_thrust 10 = .ok (.aload_n 0, 1) := by decide +kernel
theorem dX7_thrust_11 : decode cX7_thrust 11 = .ok (.invokevirtual 123, 3) := by decide +kernel
theorem dX7_thrust_14 : decode cX7_thrust 14 = .ok (.istore_n 2, 1) := by decide +kernel
theorem dX7_thrust_15 : decode cX7_thrust 15 = .ok (.aload_n 0, 1) := by decide +kernel
theorem dX7_thrust_16 : decode cX7_thrust 16 = .ok (.iload_n 1, 1) := by decide +kernel
theorem dX7_thrust_17 : decode cX7_thrust 17 = .ok (.iconst (-1), 1) := by decide +kernel
theorem dX7_thrust_18 : decode cX7_thrust 18 = .ok (.iload_n 2, 1) := by decide +kernel
theorem dX7_thrust_19 : decode cX7_thrust 19 = .ok (.invokevirtual 127, 3) := by decide +kernel
theorem dX7_thrust_22 : decode cX7_thrust 22 = .ok (.istore_n 3, 1) := by decide +kernel
theorem dX7_thrust_23 : decode cX7_thrust 23 = .ok (.aload_n 0, 1) := by decide +kernel
theorem dX7_thrust_24 : decode cX7_thrust 24 = .ok (.iload_n 1, 1) := by decide +kernel
theorem dX7_thrust_25 : decode cX7_thrust 25 = .ok (.iconst 1, 1) := by decide +kernel
theorem dX7_thrust_26 : decode cX7_thrust 26 = .ok (.iload_n 2, 1) := by decide +kernel
theorem dX7_thrust_27 : decode cX7_thrust 27 = .ok (.invokevirtual 127, 3) := by decide +kernel
theorem dX7_thrust_30 : decode cX7_thrust 30 = .ok (.istore 4, 2) := by decide +kernel
theorem dX7_thrust_32 : decode cX7_thrust 32 = .ok (.aload_n 0, 1) := by decide +kernel
theorem dX7_thrust_33 : decode cX7_thrust 33 = .ok (.getfield 7, 3) := by decide +kernel
theorem dX7_thrust_36 : decode cX7_thrust 36 = .ok (.iconst 4, 1) := by decide +kernel
theorem dX7_thrust_37 : decode cX7_thrust 37 = .ok (.iaload, 1) := by decide +kernel
theorem dX7_thrust_38 : decode cX7_thrust 38 = .ok (.istore 5, 2) := by decide +kernel
theorem dX7_thrust_40 : decode cX7_thrust 40 = .ok (.iload 5, 2) := by decide +kernel
theorem dX7_thrust_42 : decode cX7_thrust 42 = .ok (.iload_n 3, 1) := by decide +kernel
theorem dX7_thrust_43 : decode cX7_thrust 43 = .ok (.ifCond .lt 20, 3) := by decide +kernel
theorem dX7_thrust_46 : decode cX7_thrust 46 = .ok (.aload_n 0, 1) := by decide +kernel
theorem dX7_thrust_47 : decode cX7_thrust 47 = .ok (.iload_n 3, 1) := by decide +kernel
theorem dX7_thrust_48 : decode cX7_thrust 48 = .ok (.iconst 2, 1) := by decide +kernel
theorem dX7_thrust_49 : decode cX7_thrust 49 = .ok (.invokevirtual 75, 3) := by decide +kernel
theorem dX7_thrust_52 : decode cX7_thrust 52 = .ok (.ifCond .le 11, 3) := by decide +kernel
theorem dX7_thrust_55 : decode cX7_thrust 55 = .ok (.aload_n 0, 1) := by decide +kernel
theorem dX7_thrust_56 : decode cX7_thrust 56 = .ok (.iload_n 3, 1) := by decide +kernel
theorem dX7_thrust_57 : decode cX7_thrust 57 = .ok (.invokevirtual 130, 3) := by decide +kernel
theorem dX7_thrust_60 : decode cX7_thrust 60 = .ok (.goto 4, 3) := by decide +kernel
theorem dX7_thrust_63 : decode cX7_thrust 63 = .ok (.iconst 0, 1) := by decide +kernel
theorem dX7_thrust_64 : decode cX7_thrust 64 = .ok (.iadd, 1) := by decide +kernel
theorem dX7_thrust_65 : decode cX7_thrust 65 = .ok (.istore 5, 2) := by decide +kernel
theorem dX7_thrust_67 : decode cX7_thrust 67 = .ok (.iload 5, 2) := by decide +kernel
theorem dX7_thrust_69 : decode cX7_thrust 69 = .ok (.iload 4, 2) := by decide +kernel
theorem dX7_thrust_71 : decode cX7_thrust 71 = .ok (.ifCond .lt 22, 3) := by decide +kernel
theorem dX7_thrust_74 : decode cX7_thrust 74 = .ok (.aload_n 0, 1) := by decide +kernel
theorem dX7_thrust_75 : decode cX7_thrust 75 = .ok (.iload 4, 2) := by decide +kernel
theorem dX7_thrust_77 : decode cX7_thrust 77 = .ok (.iconst 2, 1) := by decide +kernel
theorem dX7_thrust_78 : decode cX7_thrust 78 = .ok (.invokevirtual 75, 3) := by decide +kernel
theorem dX7_thrust_81 : decode cX7_thrust 81 = .ok (.ifCond .ge 12, 3) := by decide +kernel
theorem dX7_thrust_84 : decode cX7_thrust 84 = .ok (.aload_n 0, 1) := by decide +kernel
theorem dX7_thrust_85 : decode cX7_thrust 85 = .ok (.iload 4, 2) := by decide +kernel
theorem dX7_thrust_87 : decode cX7_thrust 87 = .ok (.invokevirtual 130, 3) := by decide +kernel
theorem dX7_thrust_90 : decode cX7_thrust 90 = .ok (.goto 4, 3) := by decide +kernel
theorem dX7_thrust_93 : decode cX7_thrust 93 = .ok (.iconst 0, 1) := by decide +kernel
theorem dX7_thrust_94 : decode cX7_thrust 94 = .ok (.isub, 1) := by decide +kernel
theorem dX7_thrust_95 : decode cX7_thrust 95 = .ok (.istore 5, 2) := by decide +kernel
theorem dX7_thrust_97 : decode cX7_thrust 97 = .ok (.iload 5, 2) := by decide +kernel
theorem dX7_thrust_99 : decode cX7_thrust 99 = .ok (.ireturn, 1) := by decide +kernel
set_option maxRecDepth 20000 in
theorem ggX7_told_X7_isHouse : GoodIn wsX7_told wsX7_isHouse := goodIn_r _ [6, 7, 8, 9, 5, 10, 66, 67, 68, 69, 70, 71, 72, 73, 74, 75, 76, 77, 78, 79, 80, 81, 82, 83, 84, 85, 86, 87, 88, 89, 90, 91, 92, 93, 94, 95, 96, 97, 98] (by decide +kernel) (by decide +kernel)
set_option maxRecDepth 20000 in
theorem gX7_told_X7_isHouse : GoodIn wsX7_told (wsV RX7 133 RX7 yX7_isHouse wsX7_isHouse) := goodIn_app (goodIn_of _ (by decide +kernel)) ggX7_told_X7_isHouse
set_option maxRecDepth 20000 in
theorem ggX7_told_X7_of : GoodIn wsX7_told wsX7_of := goodIn_r _ [14, 7, 66, 67, 68, 69, 70, 71, 72, 73, 74, 75, 76, 77, 78, 79, 80, 81, 82, 83, 84, 85, 86, 87, 88, 89, 90, 91, 92, 93, 94, 95, 96, 97, 98] (by decide +kernel) (by decide +kernel)
set_option maxRecDepth 20000 in
theorem gX7_told_X7_of : GoodIn wsX7_told (wsV RX7 75 RX7 yX7_of wsX7_of) := goodIn_app (goodIn_of _ (by decide +kernel)) ggX7_told_X7_of
set_option maxRecDepth 20000 in
theorem ggX7_told_X7_pushes : GoodIn wsX7_told wsX7_pushes := goodIn_r _ [18, 19, 11, 12, 13, 5, 14, 7, 20, 21, 22, 23, 24, 25, 26, 27, 28, 29, 30, 31, 32, 33, 34, 35, 36, 37, 38, 39, 40, 41, 66, 67, 68, 69, 70, 71, 72, 73, 74, 75, 76, 77, 78, 79, 80, 81, 82, 83, 84, 85, 86, 87, 88, 89, 90, 91, 92, 93, 94, 95, 96, 97, 98] (by decide +kernel) (by decide +kernel)
set_option maxRecDepth 20000 in
theorem gX7_told_X7_pushes : GoodIn wsX7_told (wsV RX7 130 RX7 yX7_pushes wsX7_pushes) := goodIn_app (goodIn_of _ (by decide +kernel)) ggX7_told_X7_pushes
set_option maxRecDepth 20000 in
theorem ggX7_told_X7_bears : GoodIn wsX7_told wsX7_bears := goodIn_r _ [45, 11, 12, 13, 5, 14, 7, 66, 67, 68, 69, 70, 71, 72, 73, 74, 75, 76, 77, 78, 79, 80, 81, 82, 83, 84, 85, 86, 87, 88, 89, 90, 91, 92, 93, 94, 95, 96, 97, 98] (by decide +kernel) (by decide +kernel)
set_option maxRecDepth 20000 in
theorem gX7_told_X7_bears : GoodIn wsX7_told (wsV RX7 136 RX7 yX7_bears wsX7_bears) := goodIn_app (goodIn_of _ (by decide +kernel)) ggX7_told_X7_bears
set_option maxRecDepth 20000 in
theorem ggX7_told_X7_thrust : GoodIn wsX7_told wsX7_thrust := goodIn_r _ [49, 7, 50, 51, 52, 5, 53, 11, 12, 13, 14, 54, 55, 56, 57, 58, 59, 60, 61, 15, 16, 17, 18, 19, 20, 21, 22, 23, 24, 25, 26, 27, 28, 29, 30, 31, 32, 33, 34, 35, 36, 37, 38, 39, 40, 41, 66, 67, 68, 69, 70, 71, 72, 73, 74, 75, 76, 77, 78, 79, 80, 81, 82, 83, 84, 85, 86, 87, 88, 89, 90, 91, 92, 93, 94, 95, 96, 97, 98] (by decide +kernel) (by decide +kernel)
set_option maxRecDepth 20000 in
theorem gX7_told_X7_thrust : GoodIn wsX7_told (wsV RX7 139 RX7 yX7_thrust wsX7_thrust) := goodIn_app (goodIn_of _ (by decide +kernel)) ggX7_told_X7_thrust
set_option maxRecDepth 20000 in
theorem ggX7_told_X7_worth : GoodIn wsX7_told wsX7_worth := goodIn_r _ [65, 11, 12, 13, 5, 14, 7, 66, 67, 68, 69, 70, 71, 72, 73, 74, 75, 76, 77, 78, 79, 80, 81, 82, 83, 84, 85, 86, 87, 88, 89, 90, 91, 92, 93, 94, 95, 96, 97, 98] (by decide +kernel) (by decide +kernel)
set_option maxRecDepth 20000 in
theorem gX7_told_X7_worth : GoodIn wsX7_told (wsV RX7 142 RX7 yX7_worth wsX7_worth) := goodIn_app (goodIn_of _ (by decide +kernel)) ggX7_told_X7_worth
theorem dX7_told_0 : decode cX7_told 0 = .ok (.aload_n 0, 1) := by decide +kernel
theorem dX7_told_1 : decode cX7_told 1 = .ok (.iload_n 1, 1) := by decide +kernel
theorem dX7_told_2 : decode cX7_told 2 = .ok (.invokevirtual 133, 3) := by decide +kernel
theorem dX7_told_5 : decode cX7_told 5 = .ok (.ifCond .ne 6, 3) := by decide +kernel
theorem dX7_told_8 : decode cX7_told 8 = .ok (.ldc 100, 2) := by decide +kernel
theorem dX7_told_10 : decode cX7_told 10 = .ok (.ireturn, 1) := by decide +kernel
