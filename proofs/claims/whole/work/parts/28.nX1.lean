theorem dX1_init_0 : decode cX1_init 0 = .ok (.aload_n 0, 1) := by decide +kernel
theorem dX1_init_1 : decode cX1_init 1 = .ok (.invokespecial 3, 3) := by decide +kernel
theorem dX1_init_4 : decode cX1_init 4 = .ok (.aload_n 0, 1) := by decide +kernel
theorem dX1_init_5 : decode cX1_init 5 = .ok (.bipush 96, 2) := by decide +kernel
theorem dX1_init_7 : decode cX1_init 7 = .ok (.newarray .int, 2) := by decide +kernel
theorem dX1_init_9 : decode cX1_init 9 = .ok (.putfield 9, 3) := by decide +kernel
theorem dX1_init_12 : decode cX1_init 12 = .ok (.aload_n 0, 1) := by decide +kernel
theorem dX1_init_13 : decode cX1_init 13 = .ok (.iconst 0, 1) := by decide +kernel
theorem dX1_init_14 : decode cX1_init 14 = .ok (.putfield 15, 3) := by decide +kernel
theorem dX1_init_17 : decode cX1_init 17 = .ok (.aload_n 0, 1) := by decide +kernel
theorem dX1_init_18 : decode cX1_init 18 = .ok (.iconst 0, 1) := by decide +kernel
theorem dX1_init_19 : decode cX1_init 19 = .ok (.putfield 19, 3) := by decide +kernel
theorem dX1_init_22 : decode cX1_init 22 = .ok (.aload_n 0, 1) := by decide +kernel
theorem dX1_init_23 : decode cX1_init 23 = .ok (.iconst 0, 1) := by decide +kernel
theorem dX1_init_24 : decode cX1_init 24 = .ok (.putfield 22, 3) := by decide +kernel
theorem dX1_init_27 : decode cX1_init 27 = .ok (.aload_n 0, 1) := by decide +kernel
theorem dX1_init_28 : decode cX1_init 28 = .ok (.iconst 0, 1) := by decide +kernel
theorem dX1_init_29 : decode cX1_init 29 = .ok (.putfield 25, 3) := by decide +kernel
theorem dX1_init_32 : decode cX1_init 32 = .ok (.aload_n 0, 1) := by decide +kernel
theorem dX1_init_33 : decode cX1_init 33 = .ok (.iconst (-1), 1) := by decide +kernel
theorem dX1_init_34 : decode cX1_init 34 = .ok (.putfield 28, 3) := by decide +kernel
theorem dX1_init_37 : decode cX1_init 37 = .ok (.aload_n 0, 1) := by decide +kernel
theorem dX1_init_38 : decode cX1_init 38 = .ok (.bipush 96, 2) := by decide +kernel
theorem dX1_init_40 : decode cX1_init 40 = .ok (.newarray .int, 2) := by decide +kernel
theorem dX1_init_42 : decode cX1_init 42 = .ok (.putfield 31, 3) := by decide +kernel
theorem dX1_init_45 : decode cX1_init 45 = .ok (.aload_n 0, 1) := by decide +kernel
theorem dX1_init_46 : decode cX1_init 46 = .ok (.iconst 0, 1) := by decide +kernel
theorem dX1_init_47 : decode cX1_init 47 = .ok (.putfield 34, 3) := by decide +kernel
theorem dX1_init_50 : decode cX1_init 50 = .ok (.aload_n 0, 1) := by decide +kernel
theorem dX1_init_51 : decode cX1_init 51 = .ok (.iconst 0, 1) := by decide +kernel
theorem dX1_init_52 : decode cX1_init 52 = .ok (.putfield 37, 3) := by decide +kernel
theorem dX1_init_55 : decode cX1_init 55 = .ok (.return_, 1) := by decide +kernel
theorem dX1_addBytesOf_0 : decode cX1_addBytesOf 0 = .ok (.bipush 24, 2) := by decide +kernel
theorem dX1_addBytesOf_2 : decode cX1_addBytesOf 2 = .ok (.istore_n 2, 1) := by decide +kernel
theorem dX1_addBytesOf_3 : decode cX1_addBytesOf 3 = .ok (.iload_n 2, 1) := by decide +kernel
theorem dX1_addBytesOf_4 : decode cX1_addBytesOf 4 = .ok (.ifCond .lt 44, 3) := by decide +kernel
theorem dX1_addBytesOf_7 : decode cX1_addBytesOf 7 = .ok (.aload_n 0, 1) := by decide +kernel
theorem dX1_addBytesOf_8 : decode cX1_addBytesOf 8 = .ok (.getfield 15, 3) := by decide +kernel
theorem dX1_addBytesOf_11 : decode cX1_addBytesOf 11 = .ok (.bipush 96, 2) := by decide +kernel
theorem dX1_addBytesOf_13 : decode cX1_addBytesOf 13 = .ok (.if_icmp .ge 29, 3) := by decide +kernel
theorem dX1_addBytesOf_16 : decode cX1_addBytesOf 16 = .ok (.aload_n 0, 1) := by decide +kernel
theorem dX1_addBytesOf_17 : decode cX1_addBytesOf 17 = .ok (.getfield 9, 3) := by decide +kernel
theorem dX1_addBytesOf_20 : decode cX1_addBytesOf 20 = .ok (.aload_n 0, 1) := by decide +kernel
theorem dX1_addBytesOf_21 : decode cX1_addBytesOf 21 = .ok (.getfield 15, 3) := by decide +kernel
theorem dX1_addBytesOf_24 : decode cX1_addBytesOf 24 = .ok (.iload_n 1, 1) := by decide +kernel
theorem dX1_addBytesOf_25 : decode cX1_addBytesOf 25 = .ok (.iload_n 2, 1) := by decide +kernel
theorem dX1_addBytesOf_26 : decode cX1_addBytesOf 26 = .ok (.iushr, 1) := by decide +kernel
theorem dX1_addBytesOf_27 : decode cX1_addBytesOf 27 = .ok (.sipush 255, 3) := by decide +kernel
theorem dX1_addBytesOf_30 : decode cX1_addBytesOf 30 = .ok (.iand, 1) := by decide +kernel
theorem dX1_addBytesOf_31 : decode cX1_addBytesOf 31 = .ok (.iastore, 1) := by decide +kernel
theorem dX1_addBytesOf_32 : decode cX1_addBytesOf 32 = .ok (.aload_n 0, 1) := by decide +kernel
theorem dX1_addBytesOf_33 : decode cX1_addBytesOf 33 = .ok (.dup, 1) := by decide +kernel
theorem dX1_addBytesOf_34 : decode cX1_addBytesOf 34 = .ok (.getfield 15, 3) := by decide +kernel
theorem dX1_addBytesOf_37 : decode cX1_addBytesOf 37 = .ok (.iconst 1, 1) := by decide +kernel
theorem dX1_addBytesOf_38 : decode cX1_addBytesOf 38 = .ok (.iadd, 1) := by decide +kernel
theorem dX1_addBytesOf_39 : decode cX1_addBytesOf 39 = .ok (.putfield 15, 3) := by decide +kernel
theorem dX1_addBytesOf_42 : decode cX1_addBytesOf 42 = .ok (.iinc 2 (-8), 3) := by decide +kernel
theorem dX1_addBytesOf_45 : decode cX1_addBytesOf 45 = .ok (.goto (-42), 3) := by decide +kernel
theorem dX1_addBytesOf_48 : decode cX1_addBytesOf 48 = .ok (.return_, 1) := by decide +kernel
theorem dX1_isText_0 : decode cX1_isText 0 = .ok (.aload_n 0, 1) := by decide +kernel
theorem dX1_isText_1 : decode cX1_isText 1 = .ok (.iconst 0, 1) := by decide +kernel
theorem dX1_isText_2 : decode cX1_isText 2 = .ok (.putfield 22, 3) := by decide +kernel
theorem dX1_isText_5 : decode cX1_isText 5 = .ok (.aload_n 0, 1) := by decide +kernel
theorem dX1_isText_6 : decode cX1_isText 6 = .ok (.iconst 0, 1) := by decide +kernel
theorem dX1_isText_7 : decode cX1_isText 7 = .ok (.putfield 25, 3) := by decide +kernel
theorem dX1_isText_10 : decode cX1_isText 10 = .ok (.aload_n 0, 1) := by decide +kernel
theorem dX1_isText_11 : decode cX1_isText 11 = .ok (.iconst 0, 1) := by decide +kernel
theorem dX1_isText_12 : decode cX1_isText 12 = .ok (.putfield 34, 3) := by decide +kernel
theorem dX1_isText_15 : decode cX1_isText 15 = .ok (.aload_n 0, 1) := by decide +kernel
theorem dX1_isText_16 : decode cX1_isText 16 = .ok (.iconst 0, 1) := by decide +kernel
theorem dX1_isText_17 : decode cX1_isText 17 = .ok (.putfield 37, 3) := by decide +kernel
theorem dX1_isText_20 : decode cX1_isText 20 = .ok (.aload_n 0, 1) := by decide +kernel
theorem dX1_isText_21 : decode cX1_isText 21 = .ok (.invokevirtual 40, 3) := by decide +kernel
theorem dX1_isText_24 : decode cX1_isText 24 = .ok (.aload_n 0, 1) := by decide +kernel
theorem dX1_isText_25 : decode cX1_isText 25 = .ok (.aload_n 0, 1) := by decide +kernel
theorem dX1_isText_26 : decode cX1_isText 26 = .ok (.invokevirtual 43, 3) := by decide +kernel
theorem dX1_isText_29 : decode cX1_isText 29 = .ok (.putfield 28, 3) := by decide +kernel
theorem dX1_isText_32 : decode cX1_isText 32 = .ok (.aload_n 0, 1) := by decide +kernel
theorem dX1_isText_33 : decode cX1_isText 33 = .ok (.getfield 28, 3) := by decide +kernel
theorem dX1_isText_36 : decode cX1_isText 36 = .ok (.ifCond .ge 5, 3) := by decide +kernel
theorem dX1_isText_39 : decode cX1_isText 39 = .ok (.iconst 0, 1) := by decide +kernel
theorem dX1_isText_40 : decode cX1_isText 40 = .ok (.ireturn, 1) := by decide +kernel
theorem dX1_isText_41 : decode cX1_isText 41 = .ok (.aload_n 0, 1) := by decide +kernel
theorem dX1_isText_42 : decode cX1_isText 42 = .ok (.invokevirtual 40, 3) := by decide +kernel
theorem dX1_isText_45 : decode cX1_isText 45 = .ok (.aload_n 0, 1) := by decide +kernel
theorem dX1_isText_46 : decode cX1_isText 46 = .ok (.iconst 0, 1) := by decide +kernel
theorem dX1_isText_47 : decode cX1_isText 47 = .ok (.iconst 0, 1) := by decide +kernel
theorem dX1_isText_48 : decode cX1_isText 48 = .ok (.invokevirtual 47, 3) := by decide +kernel
theorem dX1_isText_51 : decode cX1_isText 51 = .ok (.ifCond .eq 14, 3) := by decide +kernel
theorem dX1_isText_54 : decode cX1_isText 54 = .ok (.aload_n 0, 1) := by decide +kernel
theorem dX1_isText_55 : decode cX1_isText 55 = .ok (.getfield 25, 3) := by decide +kernel
theorem dX1_isText_58 : decode cX1_isText 58 = .ok (.ifCond .ne 7, 3) := by decide +kernel
theorem dX1_isText_61 : decode cX1_isText 61 = .ok (.iconst 1, 1) := by decide +kernel
theorem dX1_isText_62 : decode cX1_isText 62 = .ok (.goto 4, 3) := by decide +kernel
theorem dX1_isText_65 : decode cX1_isText 65 = .ok (.iconst 0, 1) := by decide +kernel
theorem dX1_isText_66 : decode cX1_isText 66 = .ok (.ireturn, 1) := by decide +kernel
theorem dX1_madeText_0 : decode cX1_madeText 0 = .ok (.new 51, 3) := by decide +kernel
theorem dX1_madeText_3 : decode cX1_madeText 3 = .ok (.dup, 1) := by decide +kernel
theorem dX1_madeText_4 : decode cX1_madeText 4 = .ok (.iload_n 1, 1) := by decide +kernel
theorem dX1_madeText_5 : decode cX1_madeText 5 = .ok (.aload_n 0, 1) := by decide +kernel
theorem dX1_madeText_6 : decode cX1_madeText 6 = .ok (.getfield 28, 3) := by decide +kernel
theorem dX1_madeText_9 : decode cX1_madeText 9 = .ok (.aload_n 0, 1) := by decide +kernel
theorem dX1_madeText_10 : decode cX1_madeText 10 = .ok (.getfield 37, 3) := by decide +kernel
theorem dX1_madeText_13 : decode cX1_madeText 13 = .ok (.aload_n 0, 1) := by decide +kernel
theorem dX1_madeText_14 : decode cX1_madeText 14 = .ok (.getfield 31, 3) := by decide +kernel
theorem dX1_madeText_17 : decode cX1_madeText 17 = .ok (.aload_n 0, 1) := by decide +kernel
theorem dX1_madeText_18 : decode cX1_madeText 18 = .ok (.getfield 34, 3) := by decide +kernel
theorem dX1_madeText_21 : decode cX1_madeText 21 = .ok (.invokestatic 53, 3) := by decide +kernel
theorem dX1_madeText_24 : decode cX1_madeText 24 = .ok (.invokespecial 59, 3) := by decide +kernel
theorem dX1_madeText_27 : decode cX1_madeText 27 = .ok (.areturn, 1) := by decide +kernel
theorem dX1_goNext_0 : decode cX1_goNext 0 = .ok (.aload_n 0, 1) := by decide +kernel
theorem dX1_goNext_1 : decode cX1_goNext 1 = .ok (.getfield 25, 3) := by decide +kernel
theorem dX1_goNext_4 : decode cX1_goNext 4 = .ok (.iconst 1, 1) := by decide +kernel
theorem dX1_goNext_5 : decode cX1_goNext 5 = .ok (.if_icmp .eq 11, 3) := by decide +kernel
theorem dX1_goNext_8 : decode cX1_goNext 8 = .ok (.aload_n 0, 1) := by decide +kernel
theorem dX1_goNext_9 : decode cX1_goNext 9 = .ok (.getfield 25, 3) := by decide +kernel
theorem dX1_goNext_12 : decode cX1_goNext 12 = .ok (.iconst 2, 1) := by decide +kernel
theorem dX1_goNext_13 : decode cX1_goNext 13 = .ok (.if_icmp .ne 7, 3) := by decide +kernel
theorem dX1_goNext_16 : decode cX1_goNext 16 = .ok (.iconst 1, 1) := by decide +kernel
theorem dX1_goNext_17 : decode cX1_goNext 17 = .ok (.goto 4, 3) := by decide +kernel
theorem dX1_goNext_20 : decode cX1_goNext 20 = .ok (.iconst 0, 1) := by decide +kernel
theorem dX1_goNext_21 : decode cX1_goNext 21 = .ok (.istore_n 1, 1) := by decide +kernel
theorem dX1_goNext_22 : decode cX1_goNext 22 = .ok (.aload_n 0, 1) := by decide +kernel
theorem dX1_goNext_23 : decode cX1_goNext 23 = .ok (.getfield 22, 3) := by decide +kernel
theorem dX1_goNext_26 : decode cX1_goNext 26 = .ok (.istore_n 2, 1) := by decide +kernel
theorem dX1_goNext_27 : decode cX1_goNext 27 = .ok (.aload_n 0, 1) := by decide +kernel
theorem dX1_goNext_28 : decode cX1_goNext 28 = .ok (.aload_n 0, 1) := by decide +kernel
theorem dX1_goNext_29 : decode cX1_goNext 29 = .ok (.getfield 22, 3) := by decide +kernel
theorem dX1_goNext_32 : decode cX1_goNext 32 = .ok (.putfield 19, 3) := by decide +kernel
theorem dX1_goNext_35 : decode cX1_goNext 35 = .ok (.aload_n 0, 1) := by decide +kernel
theorem dX1_goNext_36 : decode cX1_goNext 36 = .ok (.getfield 19, 3) := by decide +kernel
theorem dX1_goNext_39 : decode cX1_goNext 39 = .ok (.aload_n 0, 1) := by decide +kernel
theorem dX1_goNext_40 : decode cX1_goNext 40 = .ok (.getfield 15, 3) := by decide +kernel
theorem dX1_goNext_43 : decode cX1_goNext 43 = .ok (.if_icmp .ge 30, 3) := by decide +kernel
theorem dX1_goNext_46 : decode cX1_goNext 46 = .ok (.aload_n 0, 1) := by decide +kernel
theorem dX1_goNext_47 : decode cX1_goNext 47 = .ok (.getfield 9, 3) := by decide +kernel
theorem dX1_goNext_50 : decode cX1_goNext 50 = .ok (.aload_n 0, 1) := by decide +kernel
theorem dX1_goNext_51 : decode cX1_goNext 51 = .ok (.getfield 19, 3) := by decide +kernel
theorem dX1_goNext_54 : decode cX1_goNext 54 = .ok (.iaload, 1) := by decide +kernel
theorem dX1_goNext_55 : decode cX1_goNext 55 = .ok (.bipush 32, 2) := by decide +kernel
theorem dX1_goNext_57 : decode cX1_goNext 57 = .ok (.if_icmp .ne 16, 3) := by decide +kernel
theorem dX1_goNext_60 : decode cX1_goNext 60 = .ok (.aload_n 0, 1) := by decide +kernel
theorem dX1_goNext_61 : decode cX1_goNext 61 = .ok (.dup, 1) := by decide +kernel
theorem dX1_goNext_62 : decode cX1_goNext 62 = .ok (.getfield 19, 3) := by decide +kernel
theorem dX1_goNext_65 : decode cX1_goNext 65 = .ok (.iconst 1, 1) := by decide +kernel
theorem dX1_goNext_66 : decode cX1_goNext 66 = .ok (.iadd, 1) := by decide +kernel
theorem dX1_goNext_67 : decode cX1_goNext 67 = .ok (.putfield 19, 3) := by decide +kernel
theorem dX1_goNext_70 : decode cX1_goNext 70 = .ok (.goto (-35), 3) := by decide +kernel
theorem dX1_goNext_73 : decode cX1_goNext 73 = .ok (.aload_n 0, 1) := by decide +kernel
theorem dX1_goNext_74 : decode cX1_goNext 74 = .ok (.aload_n 0, 1) := by decide +kernel
theorem dX1_goNext_75 : decode cX1_goNext 75 = .ok (.getfield 19, 3) := by decide +kernel
theorem dX1_goNext_78 : decode cX1_goNext 78 = .ok (.putfield 22, 3) := by decide +kernel
theorem dX1_goNext_81 : decode cX1_goNext 81 = .ok (.aload_n 0, 1) := by decide +kernel
theorem dX1_goNext_82 : decode cX1_goNext 82 = .ok (.aload_n 0, 1) := by decide +kernel
theorem dX1_goNext_83 : decode cX1_goNext 83 = .ok (.getfield 19, 3) := by decide +kernel
theorem dX1_goNext_86 : decode cX1_goNext 86 = .ok (.aload_n 0, 1) := by decide +kernel
theorem dX1_goNext_87 : decode cX1_goNext 87 = .ok (.getfield 15, 3) := by decide +kernel
theorem dX1_goNext_90 : decode cX1_goNext 90 = .ok (.if_icmp .ge 18, 3) := by decide +kernel
theorem dX1_goNext_93 : decode cX1_goNext 93 = .ok (.aload_n 0, 1) := by decide +kernel
theorem dX1_goNext_94 : decode cX1_goNext 94 = .ok (.getfield 9, 3) := by decide +kernel
theorem dX1_goNext_97 : decode cX1_goNext 97 = .ok (.aload_n 0, 1) := by decide +kernel
theorem dX1_goNext_98 : decode cX1_goNext 98 = .ok (.getfield 19, 3) := by decide +kernel
theorem dX1_goNext_101 : decode cX1_goNext 101 = .ok (.iaload, 1) := by decide +kernel
theorem dX1_goNext_102 : decode cX1_goNext 102 = .ok (.invokestatic 62, 3) := by decide +kernel
theorem dX1_goNext_105 : decode cX1_goNext 105 = .ok (.goto 4, 3) := by decide +kernel
theorem dX1_goNext_108 : decode cX1_goNext 108 = .ok (.iconst 0, 1) := by decide +kernel
theorem dX1_goNext_109 : decode cX1_goNext 109 = .ok (.putfield 25, 3) := by decide +kernel
theorem dX1_goNext_112 : decode cX1_goNext 112 = .ok (.aload_n 0, 1) := by decide +kernel
theorem dX1_goNext_113 : decode cX1_goNext 113 = .ok (.getfield 22, 3) := by decide +kernel
theorem dX1_goNext_116 : decode cX1_goNext 116 = .ok (.aload_n 0, 1) := by decide +kernel
theorem dX1_goNext_117 : decode cX1_goNext 117 = .ok (.getfield 15, 3) := by decide +kernel
theorem dX1_goNext_120 : decode cX1_goNext 120 = .ok (.if_icmp .ge 54, 3) := by decide +kernel
theorem dX1_goNext_123 : decode cX1_goNext 123 = .ok (.aload_n 0, 1) := by decide +kernel
theorem dX1_goNext_124 : decode cX1_goNext 124 = .ok (.getfield 9, 3) := by decide +kernel
theorem dX1_goNext_127 : decode cX1_goNext 127 = .ok (.aload_n 0, 1) := by decide +kernel
theorem dX1_goNext_128 : decode cX1_goNext 128 = .ok (.getfield 22, 3) := by decide +kernel
theorem dX1_goNext_131 : decode cX1_goNext 131 = .ok (.iaload, 1) := by decide +kernel
theorem dX1_goNext_132 : decode cX1_goNext 132 = .ok (.invokestatic 62, 3) := by decide +kernel
theorem dX1_goNext_135 : decode cX1_goNext 135 = .ok (.aload_n 0, 1) := by decide +kernel
theorem dX1_goNext_136 : decode cX1_goNext 136 = .ok (.getfield 25, 3) := by decide +kernel
theorem dX1_goNext_139 : decode cX1_goNext 139 = .ok (.if_icmp .ne 35, 3) := by decide +kernel
theorem dX1_goNext_142 : decode cX1_goNext 142 = .ok (.aload_n 0, 1) := by decide +kernel
theorem dX1_goNext_143 : decode cX1_goNext 143 = .ok (.getfield 22, 3) := by decide +kernel
theorem dX1_goNext_146 : decode cX1_goNext 146 = .ok (.aload_n 0, 1) := by decide +kernel
theorem dX1_goNext_147 : decode cX1_goNext 147 = .ok (.getfield 19, 3) := by decide +kernel
theorem dX1_goNext_150 : decode cX1_goNext 150 = .ok (.if_icmp .eq 11, 3) := by decide +kernel
theorem dX1_goNext_153 : decode cX1_goNext 153 = .ok (.aload_n 0, 1) := by decide +kernel
theorem dX1_goNext_154 : decode cX1_goNext 154 = .ok (.getfield 25, 3) := by decide +kernel
theorem dX1_goNext_157 : decode cX1_goNext 157 = .ok (.iconst 3, 1) := by decide +kernel
theorem dX1_goNext_158 : decode cX1_goNext 158 = .ok (.if_icmp .eq 16, 3) := by decide +kernel
theorem dX1_goNext_161 : decode cX1_goNext 161 = .ok (.aload_n 0, 1) := by decide +kernel
theorem dX1_goNext_162 : decode cX1_goNext 162 = .ok (.dup, 1) := by decide +kernel
theorem dX1_goNext_163 : decode cX1_goNext 163 = .ok (.getfield 22, 3) := by decide +kernel
theorem dX1_goNext_166 : decode cX1_goNext 166 = .ok (.iconst 1, 1) := by decide +kernel
theorem dX1_goNext_167 : decode cX1_goNext 167 = .ok (.iadd, 1) := by decide +kernel
theorem dX1_goNext_168 : decode cX1_goNext 168 = .ok (.putfield 22, 3) := by decide +kernel
theorem dX1_goNext_171 : decode cX1_goNext 171 = .ok (.goto (-59), 3) := by decide +kernel
theorem dX1_goNext_174 : decode cX1_goNext 174 = .ok (.iload_n 1, 1) := by decide +kernel
theorem dX1_goNext_175 : decode cX1_goNext 175 = .ok (.ifCond .eq 32, 3) := by decide +kernel
theorem dX1_goNext_178 : decode cX1_goNext 178 = .ok (.aload_n 0, 1) := by decide +kernel
theorem dX1_goNext_179 : decode cX1_goNext 179 = .ok (.getfield 19, 3) := by decide +kernel
theorem dX1_goNext_182 : decode cX1_goNext 182 = .ok (.iload_n 2, 1) := by decide +kernel
theorem dX1_goNext_183 : decode cX1_goNext 183 = .ok (.if_icmp .ne 24, 3) := by decide +kernel
theorem dX1_goNext_186 : decode cX1_goNext 186 = .ok (.aload_n 0, 1) := by decide +kernel
theorem dX1_goNext_187 : decode cX1_goNext 187 = .ok (.getfield 25, 3) := by decide +kernel
theorem dX1_goNext_190 : decode cX1_goNext 190 = .ok (.iconst 1, 1) := by decide +kernel
theorem dX1_goNext_191 : decode cX1_goNext 191 = .ok (.if_icmp .eq 11, 3) := by decide +kernel
theorem dX1_goNext_194 : decode cX1_goNext 194 = .ok (.aload_n 0, 1) := by decide +kernel
theorem dX1_goNext_195 : decode cX1_goNext 195 = .ok (.getfield 25, 3) := by decide +kernel
theorem dX1_goNext_198 : decode cX1_goNext 198 = .ok (.iconst 2, 1) := by decide +kernel
theorem dX1_goNext_199 : decode cX1_goNext 199 = .ok (.if_icmp .ne 8, 3) := by decide +kernel
theorem dX1_goNext_202 : decode cX1_goNext 202 = .ok (.aload_n 0, 1) := by decide +kernel
theorem dX1_goNext_203 : decode cX1_goNext 203 = .ok (.iconst 4, 1) := by decide +kernel
theorem dX1_goNext_204 : decode cX1_goNext 204 = .ok (.putfield 25, 3) := by decide +kernel
theorem dX1_goNext_207 : decode cX1_goNext 207 = .ok (.return_, 1) := by decide +kernel
theorem dX1_sortOf_0 : decode cX1_sortOf 0 = .ok (.iload_n 0, 1) := by decide +kernel
theorem dX1_sortOf_1 : decode cX1_sortOf 1 = .ok (.bipush 97, 2) := by decide +kernel
theorem dX1_sortOf_3 : decode cX1_sortOf 3 = .ok (.if_icmp .lt 13, 3) := by decide +kernel
theorem dX1_sortOf_6 : decode cX1_sortOf 6 = .ok (.iload_n 0, 1) := by decide +kernel
theorem dX1_sortOf_7 : decode cX1_sortOf 7 = .ok (.bipush 122, 2) := by decide +kernel
theorem dX1_sortOf_9 : decode cX1_sortOf 9 = .ok (.if_icmp .gt 7, 3) := by decide +kernel
theorem dX1_sortOf_12 : decode cX1_sortOf 12 = .ok (.iconst 1, 1) := by decide +kernel
theorem dX1_sortOf_13 : decode cX1_sortOf 13 = .ok (.goto 20, 3) := by decide +kernel
theorem dX1_sortOf_16 : decode cX1_sortOf 16 = .ok (.iload_n 0, 1) := by decide +kernel
theorem dX1_sortOf_17 : decode cX1_sortOf 17 = .ok (.bipush 48, 2) := by decide +kernel
theorem dX1_sortOf_19 : decode cX1_sortOf 19 = .ok (.if_icmp .lt 13, 3) := by decide +kernel
theorem dX1_sortOf_22 : decode cX1_sortOf 22 = .ok (.iload_n 0, 1) := by decide +kernel
theorem dX1_sortOf_23 : decode cX1_sortOf 23 = .ok (.bipush 57, 2) := by decide +kernel
theorem dX1_sortOf_25 : decode cX1_sortOf 25 = .ok (.if_icmp .gt 7, 3) := by decide +kernel
theorem dX1_sortOf_28 : decode cX1_sortOf 28 = .ok (.iconst 2, 1) := by decide +kernel
theorem dX1_sortOf_29 : decode cX1_sortOf 29 = .ok (.goto 4, 3) := by decide +kernel
theorem dX1_sortOf_32 : decode cX1_sortOf 32 = .ok (.iconst 3, 1) := by decide +kernel
theorem dX1_sortOf_33 : decode cX1_sortOf 33 = .ok (.ireturn, 1) := by decide +kernel
theorem dX1_keyHere_0 : decode cX1_keyHere 0 = .ok (.iconst 0, 1) := by decide +kernel
theorem dX1_keyHere_1 : decode cX1_keyHere 1 = .ok (.istore_n 1, 1) := by decide +kernel
theorem dX1_keyHere_2 : decode cX1_keyHere 2 = .ok (.iload_n 1, 1) := by decide +kernel
theorem dX1_keyHere_3 : decode cX1_keyHere 3 = .ok (.iconst 3, 1) := by decide +kernel
theorem dX1_keyHere_4 : decode cX1_keyHere 4 = .ok (.if_icmp .ge 47, 3) := by decide +kernel
theorem dX1_keyHere_7 : decode cX1_keyHere 7 = .ok (.aload_n 0, 1) := by decide +kernel
theorem dX1_keyHere_8 : decode cX1_keyHere 8 = .ok (.getfield 25, 3) := by decide +kernel
theorem dX1_keyHere_11 : decode cX1_keyHere 11 = .ok (.iconst 1, 1) := by decide +kernel
theorem dX1_keyHere_12 : decode cX1_keyHere 12 = .ok (.if_icmp .ne 33, 3) := by decide +kernel
theorem dX1_keyHere_15 : decode cX1_keyHere 15 = .ok (.aload_n 0, 1) := by decide +kernel
theorem dX1_keyHere_16 : decode cX1_keyHere 16 = .ok (.iload_n 1, 1) := by decide +kernel
theorem dX1_keyHere_17 : decode cX1_keyHere 17 = .ok (.ifCond .ne 8, 3) := by decide +kernel
theorem dX1_keyHere_20 : decode cX1_keyHere 20 = .ok (.ldc 66, 2) := by decide +kernel
theorem dX1_keyHere_22 : decode cX1_keyHere 22 = .ok (.goto 15, 3) := by decide +kernel
theorem dX1_keyHere_25 : decode cX1_keyHere 25 = .ok (.iload_n 1, 1) := by decide +kernel
theorem dX1_keyHere_26 : decode cX1_keyHere 26 = .ok (.iconst 1, 1) := by decide +kernel
theorem dX1_keyHere_27 : decode cX1_keyHere 27 = .ok (.if_icmp .ne 8, 3) := by decide +kernel
theorem dX1_keyHere_30 : decode cX1_keyHere 30 = .ok (.ldc 68, 2) := by decide +kernel
theorem dX1_keyHere_32 : decode cX1_keyHere 32 = .ok (.goto 5, 3) := by decide +kernel
theorem dX1_keyHere_35 : decode cX1_keyHere 35 = .ok (.ldc 70, 2) := by decide +kernel
theorem dX1_keyHere_37 : decode cX1_keyHere 37 = .ok (.invokevirtual 72, 3) := by decide +kernel
theorem dX1_keyHere_40 : decode cX1_keyHere 40 = .ok (.ifCond .eq 5, 3) := by decide +kernel
theorem dX1_keyHere_43 : decode cX1_keyHere 43 = .ok (.iload_n 1, 1) := by decide +kernel
theorem dX1_keyHere_44 : decode cX1_keyHere 44 = .ok (.ireturn, 1) := by decide +kernel
theorem dX1_keyHere_45 : decode cX1_keyHere 45 = .ok (.iinc 1 1, 3) := by decide +kernel
theorem dX1_keyHere_48 : decode cX1_keyHere 48 = .ok (.goto (-46), 3) := by decide +kernel
theorem dX1_keyHere_51 : decode cX1_keyHere 51 = .ok (.iconst (-1), 1) := by decide +kernel
theorem dX1_keyHere_52 : decode cX1_keyHere 52 = .ok (.ireturn, 1) := by decide +kernel
theorem dX1_isWord_0 : decode cX1_isWord 0 = .ok (.aload_n 1, 1) := by decide +kernel
theorem dX1_isWord_1 : decode cX1_isWord 1 = .ok (.invokevirtual 76, 3) := by decide +kernel
theorem dX1_isWord_4 : decode cX1_isWord 4 = .ok (.aload_n 0, 1) := by decide +kernel
theorem dX1_isWord_5 : decode cX1_isWord 5 = .ok (.getfield 22, 3) := by decide +kernel
theorem dX1_isWord_8 : decode cX1_isWord 8 = .ok (.aload_n 0, 1) := by decide +kernel
theorem dX1_isWord_9 : decode cX1_isWord 9 = .ok (.getfield 19, 3) := by decide +kernel
theorem dX1_isWord_12 : decode cX1_isWord 12 = .ok (.isub, 1) := by decide +kernel
theorem dX1_isWord_13 : decode cX1_isWord 13 = .ok (.if_icmp .eq 5, 3) := by decide +kernel
theorem dX1_isWord_16 : decode cX1_isWord 16 = .ok (.iconst 0, 1) := by decide +kernel
theorem dX1_isWord_17 : decode cX1_isWord 17 = .ok (.ireturn, 1) := by decide +kernel
theorem dX1_isWord_18 : decode cX1_isWord 18 = .ok (.iconst 0, 1) := by decide +kernel
theorem dX1_isWord_19 : decode cX1_isWord 19 = .ok (.istore_n 2, 1) := by decide +kernel
theorem dX1_isWord_20 : decode cX1_isWord 20 = .ok (.iload_n 2, 1) := by decide +kernel
theorem dX1_isWord_21 : decode cX1_isWord 21 = .ok (.aload_n 1, 1) := by decide +kernel
theorem dX1_isWord_22 : decode cX1_isWord 22 = .ok (.invokevirtual 76, 3) := by decide +kernel
theorem dX1_isWord_25 : decode cX1_isWord 25 = .ok (.if_icmp .ge 43, 3) := by decide +kernel
theorem dX1_isWord_28 : decode cX1_isWord 28 = .ok (.aload_n 0, 1) := by decide +kernel
theorem dX1_isWord_29 : decode cX1_isWord 29 = .ok (.getfield 19, 3) := by decide +kernel
theorem dX1_isWord_32 : decode cX1_isWord 32 = .ok (.iload_n 2, 1) := by decide +kernel
theorem dX1_isWord_33 : decode cX1_isWord 33 = .ok (.iadd, 1) := by decide +kernel
theorem dX1_isWord_34 : decode cX1_isWord 34 = .ok (.aload_n 0, 1) := by decide +kernel
theorem dX1_isWord_35 : decode cX1_isWord 35 = .ok (.getfield 15, 3) := by decide +kernel
theorem dX1_isWord_38 : decode cX1_isWord 38 = .ok (.if_icmp .ge 30, 3) := by decide +kernel
theorem dX1_isWord_41 : decode cX1_isWord 41 = .ok (.aload_n 1, 1) := by decide +kernel
theorem dX1_isWord_42 : decode cX1_isWord 42 = .ok (.iload_n 2, 1) := by decide +kernel
theorem dX1_isWord_43 : decode cX1_isWord 43 = .ok (.invokevirtual 81, 3) := by decide +kernel
theorem dX1_isWord_46 : decode cX1_isWord 46 = .ok (.aload_n 0, 1) := by decide +kernel
theorem dX1_isWord_47 : decode cX1_isWord 47 = .ok (.getfield 9, 3) := by decide +kernel
theorem dX1_isWord_50 : decode cX1_isWord 50 = .ok (.aload_n 0, 1) := by decide +kernel
theorem dX1_isWord_51 : decode cX1_isWord 51 = .ok (.getfield 19, 3) := by decide +kernel
theorem dX1_isWord_54 : decode cX1_isWord 54 = .ok (.iload_n 2, 1) := by decide +kernel
theorem dX1_isWord_55 : decode cX1_isWord 55 = .ok (.iadd, 1) := by decide +kernel
theorem dX1_isWord_56 : decode cX1_isWord 56 = .ok (.iaload, 1) := by decide +kernel
theorem dX1_isWord_57 : decode cX1_isWord 57 = .ok (.if_icmp .eq 5, 3) := by decide +kernel
theorem dX1_isWord_60 : decode cX1_isWord 60 = .ok (.iconst 0, 1) := by decide +kernel
theorem dX1_isWord_61 : decode cX1_isWord 61 = .ok (.ireturn, 1) := by decide +kernel
theorem dX1_isWord_62 : decode cX1_isWord 62 = .ok (.iinc 2 1, 3) := by decide +kernel
theorem dX1_isWord_65 : decode cX1_isWord 65 = .ok (.goto (-45), 3) := by decide +kernel
theorem dX1_isWord_68 : decode cX1_isWord 68 = .ok (.iconst 1, 1) := by decide +kernel
theorem dX1_isWord_69 : decode cX1_isWord 69 = .ok (.ireturn, 1) := by decide +kernel
theorem dX1_isAt_0 : decode cX1_isAt 0 = .ok (.aload_n 0, 1) := by decide +kernel
theorem dX1_isAt_1 : decode cX1_isAt 1 = .ok (.getfield 25, 3) := by decide +kernel
theorem dX1_isAt_4 : decode cX1_isAt 4 = .ok (.iconst 3, 1) := by decide +kernel
theorem dX1_isAt_5 : decode cX1_isAt 5 = .ok (.if_icmp .ne 31, 3) := by decide +kernel
theorem dX1_isAt_8 : decode cX1_isAt 8 = .ok (.aload_n 0, 1) := by decide +kernel
theorem dX1_isAt_9 : decode cX1_isAt 9 = .ok (.getfield 19, 3) := by decide +kernel
theorem dX1_isAt_12 : decode cX1_isAt 12 = .ok (.aload_n 0, 1) := by decide +kernel
theorem dX1_isAt_13 : decode cX1_isAt 13 = .ok (.getfield 15, 3) := by decide +kernel
theorem dX1_isAt_16 : decode cX1_isAt 16 = .ok (.if_icmp .ge 20, 3) := by decide +kernel
theorem dX1_isAt_19 : decode cX1_isAt 19 = .ok (.aload_n 0, 1) := by decide +kernel
theorem dX1_isAt_20 : decode cX1_isAt 20 = .ok (.getfield 9, 3) := by decide +kernel
theorem dX1_isAt_23 : decode cX1_isAt 23 = .ok (.aload_n 0, 1) := by decide +kernel
theorem dX1_isAt_24 : decode cX1_isAt 24 = .ok (.getfield 19, 3) := by decide +kernel
theorem dX1_isAt_27 : decode cX1_isAt 27 = .ok (.iaload, 1) := by decide +kernel
theorem dX1_isAt_28 : decode cX1_isAt 28 = .ok (.iload_n 1, 1) := by decide +kernel
theorem dX1_isAt_29 : decode cX1_isAt 29 = .ok (.if_icmp .ne 7, 3) := by decide +kernel
theorem dX1_isAt_32 : decode cX1_isAt 32 = .ok (.iconst 1, 1) := by decide +kernel
theorem dX1_isAt_33 : decode cX1_isAt 33 = .ok (.goto 4, 3) := by decide +kernel
theorem dX1_isAt_36 : decode cX1_isAt 36 = .ok (.iconst 0, 1) := by decide +kernel
theorem dX1_isAt_37 : decode cX1_isAt 37 = .ok (.ireturn, 1) := by decide +kernel
theorem dX1_write_0 : decode cX1_write 0 = .ok (.aload_n 0, 1) := by decide +kernel
theorem dX1_write_1 : decode cX1_write 1 = .ok (.getfield 34, 3) := by decide +kernel
theorem dX1_write_4 : decode cX1_write 4 = .ok (.bipush 96, 2) := by decide +kernel
theorem dX1_write_6 : decode cX1_write 6 = .ok (.if_icmp .ge 23, 3) := by decide +kernel
theorem dX1_write_9 : decode cX1_write 9 = .ok (.aload_n 0, 1) := by decide +kernel
theorem dX1_write_10 : decode cX1_write 10 = .ok (.getfield 31, 3) := by decide +kernel
theorem dX1_write_13 : decode cX1_write 13 = .ok (.aload_n 0, 1) := by decide +kernel
theorem dX1_write_14 : decode cX1_write 14 = .ok (.getfield 34, 3) := by decide +kernel
theorem dX1_write_17 : decode cX1_write 17 = .ok (.iload_n 1, 1) := by decide +kernel
theorem dX1_write_18 : decode cX1_write 18 = .ok (.iastore, 1) := by decide +kernel
theorem dX1_write_19 : decode cX1_write 19 = .ok (.aload_n 0, 1) := by decide +kernel
theorem dX1_write_20 : decode cX1_write 20 = .ok (.dup, 1) := by decide +kernel
theorem dX1_write_21 : decode cX1_write 21 = .ok (.getfield 34, 3) := by decide +kernel
theorem dX1_write_24 : decode cX1_write 24 = .ok (.iconst 1, 1) := by decide +kernel
theorem dX1_write_25 : decode cX1_write 25 = .ok (.iadd, 1) := by decide +kernel
theorem dX1_write_26 : decode cX1_write 26 = .ok (.putfield 34, 3) := by decide +kernel
theorem dX1_write_29 : decode cX1_write 29 = .ok (.return_, 1) := by decide +kernel
theorem dX1_passed_0 : decode cX1_passed 0 = .ok (.aload_n 0, 1) := by decide +kernel
theorem dX1_passed_1 : decode cX1_passed 1 = .ok (.iload_n 1, 1) := by decide +kernel
theorem dX1_passed_2 : decode cX1_passed 2 = .ok (.invokevirtual 85, 3) := by decide +kernel
theorem dX1_passed_5 : decode cX1_passed 5 = .ok (.ifCond .eq 7, 3) := by decide +kernel
theorem dX1_passed_8 : decode cX1_passed 8 = .ok (.iload_n 1, 1) := by decide +kernel
theorem dX1_passed_9 : decode cX1_passed 9 = .ok (.goto 16, 3) := by decide +kernel
theorem dX1_passed_12 : decode cX1_passed 12 = .ok (.aload_n 0, 1) := by decide +kernel
theorem dX1_passed_13 : decode cX1_passed 13 = .ok (.iload_n 2, 1) := by decide +kernel
theorem dX1_passed_14 : decode cX1_passed 14 = .ok (.invokevirtual 85, 3) := by decide +kernel
theorem dX1_passed_17 : decode cX1_passed 17 = .ok (.ifCond .eq 7, 3) := by decide +kernel
theorem dX1_passed_20 : decode cX1_passed 20 = .ok (.iload_n 2, 1) := by decide +kernel
theorem dX1_passed_21 : decode cX1_passed 21 = .ok (.goto 4, 3) := by decide +kernel
theorem dX1_passed_24 : decode cX1_passed 24 = .ok (.iconst 0, 1) := by decide +kernel
theorem dX1_passed_25 : decode cX1_passed 25 = .ok (.istore_n 3, 1) := by decide +kernel
theorem dX1_passed_26 : decode cX1_passed 26 = .ok (.iload_n 3, 1) := by decide +kernel
theorem dX1_passed_27 : decode cX1_passed 27 = .ok (.ifCond .eq 7, 3) := by decide +kernel
theorem dX1_passed_30 : decode cX1_passed 30 = .ok (.aload_n 0, 1) := by decide +kernel
theorem dX1_passed_31 : decode cX1_passed 31 = .ok (.invokevirtual 40, 3) := by decide +kernel
theorem dX1_passed_34 : decode cX1_passed 34 = .ok (.iload_n 3, 1) := by decide +kernel
theorem dX1_passed_35 : decode cX1_passed 35 = .ok (.ireturn, 1) := by decide +kernel
theorem dX1_isOr_0 : decode cX1_isOr 0 = .ok (.aload_n 0, 1) := by decide +kernel
theorem dX1_isOr_1 : decode cX1_isOr 1 = .ok (.iload_n 1, 1) := by decide +kernel
theorem dX1_isOr_2 : decode cX1_isOr 2 = .ok (.iload_n 2, 1) := by decide +kernel
theorem dX1_isOr_3 : decode cX1_isOr 3 = .ok (.invokevirtual 89, 3) := by decide +kernel
theorem dX1_isOr_6 : decode cX1_isOr 6 = .ok (.istore_n 3, 1) := by decide +kernel
theorem dX1_isOr_7 : decode cX1_isOr 7 = .ok (.iconst 0, 1) := by decide +kernel
theorem dX1_isOr_8 : decode cX1_isOr 8 = .ok (.istore 4, 2) := by decide +kernel
theorem dX1_isOr_10 : decode cX1_isOr 10 = .ok (.iload 4, 2) := by decide +kernel
theorem dX1_isOr_12 : decode cX1_isOr 12 = .ok (.bipush 96, 2) := by decide +kernel
theorem dX1_isOr_14 : decode cX1_isOr 14 = .ok (.if_icmp .ge 37, 3) := by decide +kernel
theorem dX1_isOr_17 : decode cX1_isOr 17 = .ok (.iload_n 3, 1) := by decide +kernel
theorem dX1_isOr_18 : decode cX1_isOr 18 = .ok (.ifCond .eq 33, 3) := by decide +kernel
theorem dX1_isOr_21 : decode cX1_isOr 21 = .ok (.aload_n 0, 1) := by decide +kernel
theorem dX1_isOr_22 : decode cX1_isOr 22 = .ok (.bipush 124, 2) := by decide +kernel
theorem dX1_isOr_24 : decode cX1_isOr 24 = .ok (.bipush 124, 2) := by decide +kernel
theorem dX1_isOr_26 : decode cX1_isOr 26 = .ok (.invokevirtual 92, 3) := by decide +kernel
theorem dX1_isOr_29 : decode cX1_isOr 29 = .ok (.ifCond .eq 22, 3) := by decide +kernel
theorem dX1_isOr_32 : decode cX1_isOr 32 = .ok (.aload_n 0, 1) := by decide +kernel
theorem dX1_isOr_33 : decode cX1_isOr 33 = .ok (.iload_n 1, 1) := by decide +kernel
theorem dX1_isOr_34 : decode cX1_isOr 34 = .ok (.iload_n 2, 1) := by decide +kernel
theorem dX1_isOr_35 : decode cX1_isOr 35 = .ok (.invokevirtual 89, 3) := by decide +kernel
theorem dX1_isOr_38 : decode cX1_isOr 38 = .ok (.istore_n 3, 1) := by decide +kernel
theorem dX1_isOr_39 : decode cX1_isOr 39 = .ok (.aload_n 0, 1) := by decide +kernel
theorem dX1_isOr_40 : decode cX1_isOr 40 = .ok (.bipush (-124), 2) := by decide +kernel
theorem dX1_isOr_42 : decode cX1_isOr 42 = .ok (.invokevirtual 96, 3) := by decide +kernel
theorem dX1_isOr_45 : decode cX1_isOr 45 = .ok (.iinc 4 1, 3) := by decide +kernel
theorem dX1_isOr_48 : decode cX1_isOr 48 = .ok (.goto (-38), 3) := by decide +kernel
theorem dX1_isOr_51 : decode cX1_isOr 51 = .ok (.iload_n 3, 1) := by decide +kernel
theorem dX1_isOr_52 : decode cX1_isOr 52 = .ok (.ireturn, 1) := by decide +kernel
theorem dX1_isAnd_0 : decode cX1_isAnd 0 = .ok (.aload_n 0, 1) := by decide +kernel
theorem dX1_isAnd_1 : decode cX1_isAnd 1 = .ok (.iload_n 1, 1) := by decide +kernel
theorem dX1_isAnd_2 : decode cX1_isAnd 2 = .ok (.iload_n 2, 1) := by decide +kernel
theorem dX1_isAnd_3 : decode cX1_isAnd 3 = .ok (.invokevirtual 100, 3) := by decide +kernel
theorem dX1_isAnd_6 : decode cX1_isAnd 6 = .ok (.istore_n 3, 1) := by decide +kernel
theorem dX1_isAnd_7 : decode cX1_isAnd 7 = .ok (.iconst 0, 1) := by decide +kernel
theorem dX1_isAnd_8 : decode cX1_isAnd 8 = .ok (.istore 4, 2) := by decide +kernel
theorem dX1_isAnd_10 : decode cX1_isAnd 10 = .ok (.iload 4, 2) := by decide +kernel
theorem dX1_isAnd_12 : decode cX1_isAnd 12 = .ok (.bipush 96, 2) := by decide +kernel
theorem dX1_isAnd_14 : decode cX1_isAnd 14 = .ok (.if_icmp .ge 37, 3) := by decide +kernel
theorem dX1_isAnd_17 : decode cX1_isAnd 17 = .ok (.iload_n 3, 1) := by decide +kernel
theorem dX1_isAnd_18 : decode cX1_isAnd 18 = .ok (.ifCond .eq 33, 3) := by decide +kernel
theorem dX1_isAnd_21 : decode cX1_isAnd 21 = .ok (.aload_n 0, 1) := by decide +kernel
theorem dX1_isAnd_22 : decode cX1_isAnd 22 = .ok (.bipush 38, 2) := by decide +kernel
theorem dX1_isAnd_24 : decode cX1_isAnd 24 = .ok (.bipush 38, 2) := by decide +kernel
theorem dX1_isAnd_26 : decode cX1_isAnd 26 = .ok (.invokevirtual 92, 3) := by decide +kernel
theorem dX1_isAnd_29 : decode cX1_isAnd 29 = .ok (.ifCond .eq 22, 3) := by decide +kernel
theorem dX1_isAnd_32 : decode cX1_isAnd 32 = .ok (.aload_n 0, 1) := by decide +kernel
theorem dX1_isAnd_33 : decode cX1_isAnd 33 = .ok (.iload_n 1, 1) := by decide +kernel
theorem dX1_isAnd_34 : decode cX1_isAnd 34 = .ok (.iload_n 2, 1) := by decide +kernel
theorem dX1_isAnd_35 : decode cX1_isAnd 35 = .ok (.invokevirtual 100, 3) := by decide +kernel
theorem dX1_isAnd_38 : decode cX1_isAnd 38 = .ok (.istore_n 3, 1) := by decide +kernel
theorem dX1_isAnd_39 : decode cX1_isAnd 39 = .ok (.aload_n 0, 1) := by decide +kernel
theorem dX1_isAnd_40 : decode cX1_isAnd 40 = .ok (.bipush (-38), 2) := by decide +kernel
theorem dX1_isAnd_42 : decode cX1_isAnd 42 = .ok (.invokevirtual 96, 3) := by decide +kernel
theorem dX1_isAnd_45 : decode cX1_isAnd 45 = .ok (.iinc 4 1, 3) := by decide +kernel
theorem dX1_isAnd_48 : decode cX1_isAnd 48 = .ok (.goto (-38), 3) := by decide +kernel
theorem dX1_isAnd_51 : decode cX1_isAnd 51 = .ok (.iload_n 3, 1) := by decide +kernel
theorem dX1_isAnd_52 : decode cX1_isAnd 52 = .ok (.ireturn, 1) := by decide +kernel
theorem dX1_isTest_0 : decode cX1_isTest 0 = .ok (.aload_n 0, 1) := by decide +kernel
theorem dX1_isTest_1 : decode cX1_isTest 1 = .ok (.iload_n 1, 1) := by decide +kernel
theorem dX1_isTest_2 : decode cX1_isTest 2 = .ok (.iload_n 2, 1) := by decide +kernel
theorem dX1_isTest_3 : decode cX1_isTest 3 = .ok (.invokevirtual 103, 3) := by decide +kernel
theorem dX1_isTest_6 : decode cX1_isTest 6 = .ok (.ifCond .ne 5, 3) := by decide +kernel
theorem dX1_isTest_9 : decode cX1_isTest 9 = .ok (.iconst 0, 1) := by decide +kernel
theorem dX1_isTest_10 : decode cX1_isTest 10 = .ok (.ireturn, 1) := by decide +kernel
theorem dX1_isTest_11 : decode cX1_isTest 11 = .ok (.aload_n 0, 1) := by decide +kernel
theorem dX1_isTest_12 : decode cX1_isTest 12 = .ok (.bipush 60, 2) := by decide +kernel
theorem dX1_isTest_14 : decode cX1_isTest 14 = .ok (.bipush 62, 2) := by decide +kernel
theorem dX1_isTest_16 : decode cX1_isTest 16 = .ok (.invokevirtual 92, 3) := by decide +kernel
theorem dX1_isTest_19 : decode cX1_isTest 19 = .ok (.istore_n 3, 1) := by decide +kernel
theorem dX1_isTest_20 : decode cX1_isTest 20 = .ok (.iload_n 3, 1) := by decide +kernel
theorem dX1_isTest_21 : decode cX1_isTest 21 = .ok (.ifCond .ne 12, 3) := by decide +kernel
theorem dX1_isTest_24 : decode cX1_isTest 24 = .ok (.aload_n 0, 1) := by decide +kernel
theorem dX1_isTest_25 : decode cX1_isTest 25 = .ok (.bipush 61, 2) := by decide +kernel
theorem dX1_isTest_27 : decode cX1_isTest 27 = .ok (.bipush 61, 2) := by decide +kernel
theorem dX1_isTest_29 : decode cX1_isTest 29 = .ok (.invokevirtual 92, 3) := by decide +kernel
theorem dX1_isTest_32 : decode cX1_isTest 32 = .ok (.istore_n 3, 1) := by decide +kernel
theorem dX1_isTest_33 : decode cX1_isTest 33 = .ok (.iload_n 3, 1) := by decide +kernel
theorem dX1_isTest_34 : decode cX1_isTest 34 = .ok (.ifCond .ne 5, 3) := by decide +kernel
theorem dX1_isTest_37 : decode cX1_isTest 37 = .ok (.iconst 1, 1) := by decide +kernel
theorem dX1_isTest_38 : decode cX1_isTest 38 = .ok (.ireturn, 1) := by decide +kernel
theorem dX1_isTest_39 : decode cX1_isTest 39 = .ok (.aload_n 0, 1) := by decide +kernel
theorem dX1_isTest_40 : decode cX1_isTest 40 = .ok (.iload_n 1, 1) := by decide +kernel
theorem dX1_isTest_41 : decode cX1_isTest 41 = .ok (.iload_n 2, 1) := by decide +kernel
theorem dX1_isTest_42 : decode cX1_isTest 42 = .ok (.invokevirtual 103, 3) := by decide +kernel
theorem dX1_isTest_45 : decode cX1_isTest 45 = .ok (.istore 4, 2) := by decide +kernel
theorem dX1_isTest_47 : decode cX1_isTest 47 = .ok (.aload_n 0, 1) := by decide +kernel
theorem dX1_isTest_48 : decode cX1_isTest 48 = .ok (.iload_n 3, 1) := by decide +kernel
theorem dX1_isTest_49 : decode cX1_isTest 49 = .ok (.ineg, 1) := by decide +kernel
theorem dX1_isTest_50 : decode cX1_isTest 50 = .ok (.invokevirtual 96, 3) := by decide +kernel
theorem dX1_isTest_53 : decode cX1_isTest 53 = .ok (.iload 4, 2) := by decide +kernel
theorem dX1_isTest_55 : decode cX1_isTest 55 = .ok (.ireturn, 1) := by decide +kernel
theorem dX1_isSum_0 : decode cX1_isSum 0 = .ok (.aload_n 0, 1) := by decide +kernel
theorem dX1_isSum_1 : decode cX1_isSum 1 = .ok (.iload_n 1, 1) := by decide +kernel
theorem dX1_isSum_2 : decode cX1_isSum 2 = .ok (.iload_n 2, 1) := by decide +kernel
theorem dX1_isSum_3 : decode cX1_isSum 3 = .ok (.invokevirtual 106, 3) := by decide +kernel
theorem dX1_isSum_6 : decode cX1_isSum 6 = .ok (.istore_n 3, 1) := by decide +kernel
theorem dX1_isSum_7 : decode cX1_isSum 7 = .ok (.iconst 0, 1) := by decide +kernel
theorem dX1_isSum_8 : decode cX1_isSum 8 = .ok (.istore 4, 2) := by decide +kernel
theorem dX1_isSum_10 : decode cX1_isSum 10 = .ok (.iload 4, 2) := by decide +kernel
theorem dX1_isSum_12 : decode cX1_isSum 12 = .ok (.bipush 96, 2) := by decide +kernel
theorem dX1_isSum_14 : decode cX1_isSum 14 = .ok (.if_icmp .ge 45, 3) := by decide +kernel
theorem dX1_isSum_17 : decode cX1_isSum 17 = .ok (.iload_n 3, 1) := by decide +kernel
theorem dX1_isSum_18 : decode cX1_isSum 18 = .ok (.ifCond .eq 41, 3) := by decide +kernel
theorem dX1_isSum_21 : decode cX1_isSum 21 = .ok (.aload_n 0, 1) := by decide +kernel
theorem dX1_isSum_22 : decode cX1_isSum 22 = .ok (.bipush 43, 2) := by decide +kernel
theorem dX1_isSum_24 : decode cX1_isSum 24 = .ok (.bipush 45, 2) := by decide +kernel
theorem dX1_isSum_26 : decode cX1_isSum 26 = .ok (.invokevirtual 92, 3) := by decide +kernel
theorem dX1_isSum_29 : decode cX1_isSum 29 = .ok (.istore 5, 2) := by decide +kernel
theorem dX1_isSum_31 : decode cX1_isSum 31 = .ok (.iload 5, 2) := by decide +kernel
theorem dX1_isSum_33 : decode cX1_isSum 33 = .ok (.ifCond .ne 6, 3) := by decide +kernel
theorem dX1_isSum_36 : decode cX1_isSum 36 = .ok (.goto 23, 3) := by decide +kernel
theorem dX1_isSum_39 : decode cX1_isSum 39 = .ok (.aload_n 0, 1) := by decide +kernel
theorem dX1_isSum_40 : decode cX1_isSum 40 = .ok (.iload_n 1, 1) := by decide +kernel
theorem dX1_isSum_41 : decode cX1_isSum 41 = .ok (.iload_n 2, 1) := by decide +kernel
theorem dX1_isSum_42 : decode cX1_isSum 42 = .ok (.invokevirtual 106, 3) := by decide +kernel
theorem dX1_isSum_45 : decode cX1_isSum 45 = .ok (.istore_n 3, 1) := by decide +kernel
theorem dX1_isSum_46 : decode cX1_isSum 46 = .ok (.aload_n 0, 1) := by decide +kernel
theorem dX1_isSum_47 : decode cX1_isSum 47 = .ok (.iload 5, 2) := by decide +kernel
theorem dX1_isSum_49 : decode cX1_isSum 49 = .ok (.ineg, 1) := by decide +kernel
theorem dX1_isSum_50 : decode cX1_isSum 50 = .ok (.invokevirtual 96, 3) := by decide +kernel
theorem dX1_isSum_53 : decode cX1_isSum 53 = .ok (.iinc 4 1, 3) := by decide +kernel
theorem dX1_isSum_56 : decode cX1_isSum 56 = .ok (.goto (-46), 3) := by decide +kernel
theorem dX1_isSum_59 : decode cX1_isSum 59 = .ok (.iload_n 3, 1) := by decide +kernel
theorem dX1_isSum_60 : decode cX1_isSum 60 = .ok (.ireturn, 1) := by decide +kernel
theorem dX1_isTerm_0 : decode cX1_isTerm 0 = .ok (.aload_n 0, 1) := by decide +kernel
theorem dX1_isTerm_1 : decode cX1_isTerm 1 = .ok (.iload_n 1, 1) := by decide +kernel
theorem dX1_isTerm_2 : decode cX1_isTerm 2 = .ok (.iload_n 2, 1) := by decide +kernel
theorem dX1_isTerm_3 : decode cX1_isTerm 3 = .ok (.invokevirtual 109, 3) := by decide +kernel
theorem dX1_isTerm_6 : decode cX1_isTerm 6 = .ok (.istore_n 3, 1) := by decide +kernel
theorem dX1_isTerm_7 : decode cX1_isTerm 7 = .ok (.iconst 0, 1) := by decide +kernel
theorem dX1_isTerm_8 : decode cX1_isTerm 8 = .ok (.istore 4, 2) := by decide +kernel
theorem dX1_isTerm_10 : decode cX1_isTerm 10 = .ok (.iload 4, 2) := by decide +kernel
theorem dX1_isTerm_12 : decode cX1_isTerm 12 = .ok (.bipush 96, 2) := by decide +kernel
theorem dX1_isTerm_14 : decode cX1_isTerm 14 = .ok (.if_icmp .ge 45, 3) := by decide +kernel
theorem dX1_isTerm_17 : decode cX1_isTerm 17 = .ok (.iload_n 3, 1) := by decide +kernel
theorem dX1_isTerm_18 : decode cX1_isTerm 18 = .ok (.ifCond .eq 41, 3) := by decide +kernel
theorem dX1_isTerm_21 : decode cX1_isTerm 21 = .ok (.aload_n 0, 1) := by decide +kernel
theorem dX1_isTerm_22 : decode cX1_isTerm 22 = .ok (.bipush 42, 2) := by decide +kernel
theorem dX1_isTerm_24 : decode cX1_isTerm 24 = .ok (.bipush 47, 2) := by decide +kernel
theorem dX1_isTerm_26 : decode cX1_isTerm 26 = .ok (.invokevirtual 92, 3) := by decide +kernel
theorem dX1_isTerm_29 : decode cX1_isTerm 29 = .ok (.istore 5, 2) := by decide +kernel
theorem dX1_isTerm_31 : decode cX1_isTerm 31 = .ok (.iload 5, 2) := by decide +kernel
theorem dX1_isTerm_33 : decode cX1_isTerm 33 = .ok (.ifCond .ne 6, 3) := by decide +kernel
theorem dX1_isTerm_36 : decode cX1_isTerm 36 = .ok (.goto 23, 3) := by decide +kernel
theorem dX1_isTerm_39 : decode cX1_isTerm 39 = .ok (.aload_n 0, 1) := by decide +kernel
theorem dX1_isTerm_40 : decode cX1_isTerm 40 = .ok (.iload_n 1, 1) := by decide +kernel
theorem dX1_isTerm_41 : decode cX1_isTerm 41 = .ok (.iload_n 2, 1) := by decide +kernel
theorem dX1_isTerm_42 : decode cX1_isTerm 42 = .ok (.invokevirtual 109, 3) := by decide +kernel
theorem dX1_isTerm_45 : decode cX1_isTerm 45 = .ok (.istore_n 3, 1) := by decide +kernel
theorem dX1_isTerm_46 : decode cX1_isTerm 46 = .ok (.aload_n 0, 1) := by decide +kernel
theorem dX1_isTerm_47 : decode cX1_isTerm 47 = .ok (.iload 5, 2) := by decide +kernel
theorem dX1_isTerm_49 : decode cX1_isTerm 49 = .ok (.ineg, 1) := by decide +kernel
theorem dX1_isTerm_50 : decode cX1_isTerm 50 = .ok (.invokevirtual 96, 3) := by decide +kernel
theorem dX1_isTerm_53 : decode cX1_isTerm 53 = .ok (.iinc 4 1, 3) := by decide +kernel
theorem dX1_isTerm_56 : decode cX1_isTerm 56 = .ok (.goto (-46), 3) := by decide +kernel
theorem dX1_isTerm_59 : decode cX1_isTerm 59 = .ok (.iload_n 3, 1) := by decide +kernel
theorem dX1_isTerm_60 : decode cX1_isTerm 60 = .ok (.ireturn, 1) := by decide +kernel
theorem dX1_isPiece_0 : decode cX1_isPiece 0 = .ok (.aload_n 0, 1) := by decide +kernel
theorem dX1_isPiece_1 : decode cX1_isPiece 1 = .ok (.getfield 25, 3) := by decide +kernel
theorem dX1_isPiece_4 : decode cX1_isPiece 4 = .ok (.iconst 2, 1) := by decide +kernel
theorem dX1_isPiece_5 : decode cX1_isPiece 5 = .ok (.if_icmp .ne 8, 3) := by decide +kernel
theorem dX1_isPiece_8 : decode cX1_isPiece 8 = .ok (.aload_n 0, 1) := by decide +kernel
theorem dX1_isPiece_9 : decode cX1_isPiece 9 = .ok (.invokevirtual 112, 3) := by decide +kernel
theorem dX1_isPiece_12 : decode cX1_isPiece 12 = .ok (.ireturn, 1) := by decide +kernel
theorem dX1_isPiece_13 : decode cX1_isPiece 13 = .ok (.aload_n 0, 1) := by decide +kernel
theorem dX1_isPiece_14 : decode cX1_isPiece 14 = .ok (.getfield 25, 3) := by decide +kernel
theorem dX1_isPiece_17 : decode cX1_isPiece 17 = .ok (.iconst 1, 1) := by decide +kernel
theorem dX1_isPiece_18 : decode cX1_isPiece 18 = .ok (.if_icmp .ne 8, 3) := by decide +kernel
theorem dX1_isPiece_21 : decode cX1_isPiece 21 = .ok (.aload_n 0, 1) := by decide +kernel
theorem dX1_isPiece_22 : decode cX1_isPiece 22 = .ok (.invokevirtual 116, 3) := by decide +kernel
theorem dX1_isPiece_25 : decode cX1_isPiece 25 = .ok (.ireturn, 1) := by decide +kernel
theorem dX1_isPiece_26 : decode cX1_isPiece 26 = .ok (.aload_n 0, 1) := by decide +kernel
theorem dX1_isPiece_27 : decode cX1_isPiece 27 = .ok (.bipush 33, 2) := by decide +kernel
theorem dX1_isPiece_29 : decode cX1_isPiece 29 = .ok (.invokevirtual 85, 3) := by decide +kernel
theorem dX1_isPiece_32 : decode cX1_isPiece 32 = .ok (.ifCond .eq 30, 3) := by decide +kernel
theorem dX1_isPiece_35 : decode cX1_isPiece 35 = .ok (.iload_n 2, 1) := by decide +kernel
theorem dX1_isPiece_36 : decode cX1_isPiece 36 = .ok (.bipush 8, 2) := by decide +kernel
theorem dX1_isPiece_38 : decode cX1_isPiece 38 = .ok (.if_icmp .ge 24, 3) := by decide +kernel
theorem dX1_isPiece_41 : decode cX1_isPiece 41 = .ok (.aload_n 0, 1) := by decide +kernel
theorem dX1_isPiece_42 : decode cX1_isPiece 42 = .ok (.invokevirtual 40, 3) := by decide +kernel
theorem dX1_isPiece_45 : decode cX1_isPiece 45 = .ok (.aload_n 0, 1) := by decide +kernel
theorem dX1_isPiece_46 : decode cX1_isPiece 46 = .ok (.iload_n 1, 1) := by decide +kernel
theorem dX1_isPiece_47 : decode cX1_isPiece 47 = .ok (.iload_n 2, 1) := by decide +kernel
theorem dX1_isPiece_48 : decode cX1_isPiece 48 = .ok (.iconst 1, 1) := by decide +kernel
theorem dX1_isPiece_49 : decode cX1_isPiece 49 = .ok (.iadd, 1) := by decide +kernel
theorem dX1_isPiece_50 : decode cX1_isPiece 50 = .ok (.invokevirtual 109, 3) := by decide +kernel
theorem dX1_isPiece_53 : decode cX1_isPiece 53 = .ok (.istore_n 3, 1) := by decide +kernel
theorem dX1_isPiece_54 : decode cX1_isPiece 54 = .ok (.aload_n 0, 1) := by decide +kernel
theorem dX1_isPiece_55 : decode cX1_isPiece 55 = .ok (.bipush (-33), 2) := by decide +kernel
theorem dX1_isPiece_57 : decode cX1_isPiece 57 = .ok (.invokevirtual 96, 3) := by decide +kernel
theorem dX1_isPiece_60 : decode cX1_isPiece 60 = .ok (.iload_n 3, 1) := by decide +kernel
theorem dX1_isPiece_61 : decode cX1_isPiece 61 = .ok (.ireturn, 1) := by decide +kernel
theorem dX1_isPiece_62 : decode cX1_isPiece 62 = .ok (.aload_n 0, 1) := by decide +kernel
theorem dX1_isPiece_63 : decode cX1_isPiece 63 = .ok (.bipush 40, 2) := by decide +kernel
theorem dX1_isPiece_65 : decode cX1_isPiece 65 = .ok (.invokevirtual 85, 3) := by decide +kernel
theorem dX1_isPiece_68 : decode cX1_isPiece 68 = .ok (.ifCond .eq 9, 3) := by decide +kernel
theorem dX1_isPiece_71 : decode cX1_isPiece 71 = .ok (.iload_n 1, 1) := by decide +kernel
theorem dX1_isPiece_72 : decode cX1_isPiece 72 = .ok (.bipush 8, 2) := by decide +kernel
theorem dX1_isPiece_74 : decode cX1_isPiece 74 = .ok (.if_icmp .lt 5, 3) := by decide +kernel
theorem dX1_isPiece_77 : decode cX1_isPiece 77 = .ok (.iconst 0, 1) := by decide +kernel
theorem dX1_isPiece_78 : decode cX1_isPiece 78 = .ok (.ireturn, 1) := by decide +kernel
theorem dX1_isPiece_79 : decode cX1_isPiece 79 = .ok (.aload_n 0, 1) := by decide +kernel
theorem dX1_isPiece_80 : decode cX1_isPiece 80 = .ok (.invokevirtual 40, 3) := by decide +kernel
theorem dX1_isPiece_83 : decode cX1_isPiece 83 = .ok (.aload_n 0, 1) := by decide +kernel
theorem dX1_isPiece_84 : decode cX1_isPiece 84 = .ok (.iload_n 1, 1) := by decide +kernel
theorem dX1_isPiece_85 : decode cX1_isPiece 85 = .ok (.iconst 1, 1) := by decide +kernel
theorem dX1_isPiece_86 : decode cX1_isPiece 86 = .ok (.iadd, 1) := by decide +kernel
theorem dX1_isPiece_87 : decode cX1_isPiece 87 = .ok (.iload_n 2, 1) := by decide +kernel
theorem dX1_isPiece_88 : decode cX1_isPiece 88 = .ok (.invokevirtual 47, 3) := by decide +kernel
theorem dX1_isPiece_91 : decode cX1_isPiece 91 = .ok (.ifCond .eq 12, 3) := by decide +kernel
theorem dX1_isPiece_94 : decode cX1_isPiece 94 = .ok (.aload_n 0, 1) := by decide +kernel
theorem dX1_isPiece_95 : decode cX1_isPiece 95 = .ok (.bipush 41, 2) := by decide +kernel
theorem dX1_isPiece_97 : decode cX1_isPiece 97 = .ok (.invokevirtual 85, 3) := by decide +kernel
theorem dX1_isPiece_100 : decode cX1_isPiece 100 = .ok (.ifCond .ne 5, 3) := by decide +kernel
theorem dX1_isPiece_103 : decode cX1_isPiece 103 = .ok (.iconst 0, 1) := by decide +kernel
theorem dX1_isPiece_104 : decode cX1_isPiece 104 = .ok (.ireturn, 1) := by decide +kernel
theorem dX1_isPiece_105 : decode cX1_isPiece 105 = .ok (.aload_n 0, 1) := by decide +kernel
theorem dX1_isPiece_106 : decode cX1_isPiece 106 = .ok (.invokevirtual 40, 3) := by decide +kernel
theorem dX1_isPiece_109 : decode cX1_isPiece 109 = .ok (.iconst 1, 1) := by decide +kernel
theorem dX1_isPiece_110 : decode cX1_isPiece 110 = .ok (.ireturn, 1) := by decide +kernel
theorem dX1_isNumber_0 : decode cX1_isNumber 0 = .ok (.aload_n 0, 1) := by decide +kernel
theorem dX1_isNumber_1 : decode cX1_isNumber 1 = .ok (.getfield 22, 3) := by decide +kernel
theorem dX1_isNumber_4 : decode cX1_isNumber 4 = .ok (.aload_n 0, 1) := by decide +kernel
theorem dX1_isNumber_5 : decode cX1_isNumber 5 = .ok (.getfield 19, 3) := by decide +kernel
theorem dX1_isNumber_8 : decode cX1_isNumber 8 = .ok (.isub, 1) := by decide +kernel
theorem dX1_isNumber_9 : decode cX1_isNumber 9 = .ok (.iconst 4, 1) := by decide +kernel
theorem dX1_isNumber_10 : decode cX1_isNumber 10 = .ok (.if_icmp .le 5, 3) := by decide +kernel
theorem dX1_isNumber_13 : decode cX1_isNumber 13 = .ok (.iconst 0, 1) := by decide +kernel
theorem dX1_isNumber_14 : decode cX1_isNumber 14 = .ok (.ireturn, 1) := by decide +kernel
theorem dX1_isNumber_15 : decode cX1_isNumber 15 = .ok (.iconst 0, 1) := by decide +kernel
theorem dX1_isNumber_16 : decode cX1_isNumber 16 = .ok (.istore_n 1, 1) := by decide +kernel
theorem dX1_isNumber_17 : decode cX1_isNumber 17 = .ok (.aload_n 0, 1) := by decide +kernel
theorem dX1_isNumber_18 : decode cX1_isNumber 18 = .ok (.getfield 19, 3) := by decide +kernel
theorem dX1_isNumber_21 : decode cX1_isNumber 21 = .ok (.istore_n 2, 1) := by decide +kernel
theorem dX1_isNumber_22 : decode cX1_isNumber 22 = .ok (.iload_n 2, 1) := by decide +kernel
theorem dX1_isNumber_23 : decode cX1_isNumber 23 = .ok (.aload_n 0, 1) := by decide +kernel
theorem dX1_isNumber_24 : decode cX1_isNumber 24 = .ok (.getfield 22, 3) := by decide +kernel
theorem dX1_isNumber_27 : decode cX1_isNumber 27 = .ok (.if_icmp .ge 24, 3) := by decide +kernel
theorem dX1_isNumber_30 : decode cX1_isNumber 30 = .ok (.bipush 10, 2) := by decide +kernel
theorem dX1_isNumber_32 : decode cX1_isNumber 32 = .ok (.iload_n 1, 1) := by decide +kernel
theorem dX1_isNumber_33 : decode cX1_isNumber 33 = .ok (.imul, 1) := by decide +kernel
theorem dX1_isNumber_34 : decode cX1_isNumber 34 = .ok (.aload_n 0, 1) := by decide +kernel
theorem dX1_isNumber_35 : decode cX1_isNumber 35 = .ok (.getfield 9, 3) := by decide +kernel
theorem dX1_isNumber_38 : decode cX1_isNumber 38 = .ok (.iload_n 2, 1) := by decide +kernel
theorem dX1_isNumber_39 : decode cX1_isNumber 39 = .ok (.iaload, 1) := by decide +kernel
theorem dX1_isNumber_40 : decode cX1_isNumber 40 = .ok (.iadd, 1) := by decide +kernel
theorem dX1_isNumber_41 : decode cX1_isNumber 41 = .ok (.bipush 48, 2) := by decide +kernel
theorem dX1_isNumber_43 : decode cX1_isNumber 43 = .ok (.isub, 1) := by decide +kernel
theorem dX1_isNumber_44 : decode cX1_isNumber 44 = .ok (.istore_n 1, 1) := by decide +kernel
theorem dX1_isNumber_45 : decode cX1_isNumber 45 = .ok (.iinc 2 1, 3) := by decide +kernel
theorem dX1_isNumber_48 : decode cX1_isNumber 48 = .ok (.goto (-26), 3) := by decide +kernel
theorem dX1_isNumber_51 : decode cX1_isNumber 51 = .ok (.aload_n 0, 1) := by decide +kernel
theorem dX1_isNumber_52 : decode cX1_isNumber 52 = .ok (.iload_n 1, 1) := by decide +kernel
theorem dX1_isNumber_53 : decode cX1_isNumber 53 = .ok (.invokevirtual 119, 3) := by decide +kernel
theorem dX1_isNumber_56 : decode cX1_isNumber 56 = .ok (.ireturn, 1) := by decide +kernel
theorem dX1_isName_0 : decode cX1_isName 0 = .ok (.aload_n 0, 1) := by decide +kernel
theorem dX1_isName_1 : decode cX1_isName 1 = .ok (.getfield 28, 3) := by decide +kernel
theorem dX1_isName_4 : decode cX1_isName 4 = .ok (.ifCond .ne 8, 3) := by decide +kernel
theorem dX1_isName_7 : decode cX1_isName 7 = .ok (.ldc 123, 2) := by decide +kernel
theorem dX1_isName_9 : decode cX1_isName 9 = .ok (.goto 18, 3) := by decide +kernel
theorem dX1_isName_12 : decode cX1_isName 12 = .ok (.aload_n 0, 1) := by decide +kernel
theorem dX1_isName_13 : decode cX1_isName 13 = .ok (.getfield 28, 3) := by decide +kernel
theorem dX1_isName_16 : decode cX1_isName 16 = .ok (.iconst 1, 1) := by decide +kernel
theorem dX1_isName_17 : decode cX1_isName 17 = .ok (.if_icmp .ne 8, 3) := by decide +kernel
theorem dX1_isName_20 : decode cX1_isName 20 = .ok (.ldc 125, 2) := by decide +kernel
theorem dX1_isName_22 : decode cX1_isName 22 = .ok (.goto 5, 3) := by decide +kernel
theorem dX1_isName_25 : decode cX1_isName 25 = .ok (.ldc 127, 2) := by decide +kernel
theorem dX1_isName_27 : decode cX1_isName 27 = .ok (.astore_n 1, 1) := by decide +kernel
theorem dX1_isName_28 : decode cX1_isName 28 = .ok (.aload_n 0, 1) := by decide +kernel
theorem dX1_isName_29 : decode cX1_isName 29 = .ok (.getfield 22, 3) := by decide +kernel
theorem dX1_isName_32 : decode cX1_isName 32 = .ok (.aload_n 0, 1) := by decide +kernel
theorem dX1_isName_33 : decode cX1_isName 33 = .ok (.getfield 19, 3) := by decide +kernel
theorem dX1_isName_36 : decode cX1_isName 36 = .ok (.isub, 1) := by decide +kernel
theorem dX1_isName_37 : decode cX1_isName 37 = .ok (.iconst 1, 1) := by decide +kernel
theorem dX1_isName_38 : decode cX1_isName 38 = .ok (.if_icmp .ne 20, 3) := by decide +kernel
theorem dX1_isName_41 : decode cX1_isName 41 = .ok (.aload_n 1, 1) := by decide +kernel
theorem dX1_isName_42 : decode cX1_isName 42 = .ok (.aload_n 0, 1) := by decide +kernel
theorem dX1_isName_43 : decode cX1_isName 43 = .ok (.getfield 9, 3) := by decide +kernel
theorem dX1_isName_46 : decode cX1_isName 46 = .ok (.aload_n 0, 1) := by decide +kernel
theorem dX1_isName_47 : decode cX1_isName 47 = .ok (.getfield 19, 3) := by decide +kernel
theorem dX1_isName_50 : decode cX1_isName 50 = .ok (.iaload, 1) := by decide +kernel
theorem dX1_isName_51 : decode cX1_isName 51 = .ok (.i2c, 1) := by decide +kernel
theorem dX1_isName_52 : decode cX1_isName 52 = .ok (.invokevirtual 129, 3) := by decide +kernel
theorem dX1_isName_55 : decode cX1_isName 55 = .ok (.goto 4, 3) := by decide +kernel
theorem dX1_isName_58 : decode cX1_isName 58 = .ok (.iconst (-1), 1) := by decide +kernel
theorem dX1_isName_59 : decode cX1_isName 59 = .ok (.istore_n 2, 1) := by decide +kernel
theorem dX1_isName_60 : decode cX1_isName 60 = .ok (.iload_n 2, 1) := by decide +kernel
theorem dX1_isName_61 : decode cX1_isName 61 = .ok (.ifCond .lt 19, 3) := by decide +kernel
theorem dX1_isName_64 : decode cX1_isName 64 = .ok (.aload_n 0, 1) := by decide +kernel
theorem dX1_isName_65 : decode cX1_isName 65 = .ok (.sipush 10000, 3) := by decide +kernel
theorem dX1_isName_68 : decode cX1_isName 68 = .ok (.iload_n 2, 1) := by decide +kernel
theorem dX1_isName_69 : decode cX1_isName 69 = .ok (.iadd, 1) := by decide +kernel
theorem dX1_isName_70 : decode cX1_isName 70 = .ok (.invokevirtual 119, 3) := by decide +kernel
theorem dX1_isName_73 : decode cX1_isName 73 = .ok (.ifCond .eq 7, 3) := by decide +kernel
theorem dX1_isName_76 : decode cX1_isName 76 = .ok (.iconst 1, 1) := by decide +kernel
theorem dX1_isName_77 : decode cX1_isName 77 = .ok (.goto 4, 3) := by decide +kernel
theorem dX1_isName_80 : decode cX1_isName 80 = .ok (.iconst 0, 1) := by decide +kernel
theorem dX1_isName_81 : decode cX1_isName 81 = .ok (.ireturn, 1) := by decide +kernel
theorem dX1_takePiece_0 : decode cX1_takePiece 0 = .ok (.aload_n 0, 1) := by decide +kernel
theorem dX1_takePiece_1 : decode cX1_takePiece 1 = .ok (.iload_n 1, 1) := by decide +kernel
theorem dX1_takePiece_2 : decode cX1_takePiece 2 = .ok (.invokevirtual 96, 3) := by decide +kernel
theorem dX1_takePiece_5 : decode cX1_takePiece 5 = .ok (.aload_n 0, 1) := by decide +kernel
theorem dX1_takePiece_6 : decode cX1_takePiece 6 = .ok (.dup, 1) := by decide +kernel
theorem dX1_takePiece_7 : decode cX1_takePiece 7 = .ok (.getfield 37, 3) := by decide +kernel
theorem dX1_takePiece_10 : decode cX1_takePiece 10 = .ok (.iconst 1, 1) := by decide +kernel
theorem dX1_takePiece_11 : decode cX1_takePiece 11 = .ok (.iadd, 1) := by decide +kernel
theorem dX1_takePiece_12 : decode cX1_takePiece 12 = .ok (.putfield 37, 3) := by decide +kernel
theorem dX1_takePiece_15 : decode cX1_takePiece 15 = .ok (.aload_n 0, 1) := by decide +kernel
theorem dX1_takePiece_16 : decode cX1_takePiece 16 = .ok (.invokevirtual 40, 3) := by decide +kernel
theorem dX1_takePiece_19 : decode cX1_takePiece 19 = .ok (.iconst 1, 1) := by decide +kernel
theorem dX1_takePiece_20 : decode cX1_takePiece 20 = .ok (.ireturn, 1) := by decide +kernel
