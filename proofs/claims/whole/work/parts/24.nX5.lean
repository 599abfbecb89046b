theorem dX5_init_0 : decode cX5_init 0 = .ok (.aload_n 0, 1) := by decide +kernel
theorem dX5_init_1 : decode cX5_init 1 = .ok (.invokespecial 3, 3) := by decide +kernel
theorem dX5_init_4 : decode cX5_init 4 = .ok (.aload_n 0, 1) := by decide +kernel
theorem dX5_init_5 : decode cX5_init 5 = .ok (.iload_n 1, 1) := by decide +kernel
theorem dX5_init_6 : decode cX5_init 6 = .ok (.putfield 9, 3) := by decide +kernel
theorem dX5_init_9 : decode cX5_init 9 = .ok (.aload_n 0, 1) := by decide +kernel
theorem dX5_init_10 : decode cX5_init 10 = .ok (.iload_n 2, 1) := by decide +kernel
theorem dX5_init_11 : decode cX5_init 11 = .ok (.putfield 15, 3) := by decide +kernel
theorem dX5_init_14 : decode cX5_init 14 = .ok (.aload_n 0, 1) := by decide +kernel
theorem dX5_init_15 : decode cX5_init 15 = .ok (.iload_n 3, 1) := by decide +kernel
theorem dX5_init_16 : decode cX5_init 16 = .ok (.putfield 18, 3) := by decide +kernel
theorem dX5_init_19 : decode cX5_init 19 = .ok (.aload_n 0, 1) := by decide +kernel
theorem dX5_init_20 : decode cX5_init 20 = .ok (.aload 4, 2) := by decide +kernel
theorem dX5_init_22 : decode cX5_init 22 = .ok (.putfield 21, 3) := by decide +kernel
theorem dX5_init_25 : decode cX5_init 25 = .ok (.aload_n 0, 1) := by decide +kernel
theorem dX5_init_26 : decode cX5_init 26 = .ok (.iconst 1, 1) := by decide +kernel
theorem dX5_init_27 : decode cX5_init 27 = .ok (.iload_n 3, 1) := by decide +kernel
theorem dX5_init_28 : decode cX5_init 28 = .ok (.invokestatic 25, 3) := by decide +kernel
theorem dX5_init_31 : decode cX5_init 31 = .ok (.newarray .int, 2) := by decide +kernel
theorem dX5_init_33 : decode cX5_init 33 = .ok (.putfield 31, 3) := by decide +kernel
theorem dX5_init_36 : decode cX5_init 36 = .ok (.return_, 1) := by decide +kernel
theorem dX5_value_0 : decode cX5_value 0 = .ok (.iconst (-1), 1) := by decide +kernel
theorem dX5_value_1 : decode cX5_value 1 = .ok (.istore 4, 2) := by decide +kernel
theorem dX5_value_3 : decode cX5_value 3 = .ok (.aload_n 0, 1) := by decide +kernel
theorem dX5_value_4 : decode cX5_value 4 = .ok (.getfield 21, 3) := by decide +kernel
theorem dX5_value_7 : decode cX5_value 7 = .ok (.astore 5, 2) := by decide +kernel
theorem dX5_value_9 : decode cX5_value 9 = .ok (.aload 5, 2) := by decide +kernel
theorem dX5_value_11 : decode cX5_value 11 = .ok (.arraylength, 1) := by decide +kernel
theorem dX5_value_12 : decode cX5_value 12 = .ok (.istore 6, 2) := by decide +kernel
theorem dX5_value_14 : decode cX5_value 14 = .ok (.iconst 0, 1) := by decide +kernel
theorem dX5_value_15 : decode cX5_value 15 = .ok (.istore 7, 2) := by decide +kernel
theorem dX5_value_17 : decode cX5_value 17 = .ok (.iload 7, 2) := by decide +kernel
theorem dX5_value_19 : decode cX5_value 19 = .ok (.iload 6, 2) := by decide +kernel
theorem dX5_value_21 : decode cX5_value 21 = .ok (.if_icmp .ge 164, 3) := by decide +kernel
theorem dX5_value_24 : decode cX5_value 24 = .ok (.aload 5, 2) := by decide +kernel
theorem dX5_value_26 : decode cX5_value 26 = .ok (.iload 7, 2) := by decide +kernel
theorem dX5_value_28 : decode cX5_value 28 = .ok (.iaload, 1) := by decide +kernel
theorem dX5_value_29 : decode cX5_value 29 = .ok (.istore 8, 2) := by decide +kernel
theorem dX5_value_31 : decode cX5_value 31 = .ok (.iload 8, 2) := by decide +kernel
theorem dX5_value_33 : decode cX5_value 33 = .ok (.ifCond .lt 66, 3) := by decide +kernel
theorem dX5_value_36 : decode cX5_value 36 = .ok (.iload 4, 2) := by decide +kernel
theorem dX5_value_38 : decode cX5_value 38 = .ok (.iconst 1, 1) := by decide +kernel
theorem dX5_value_39 : decode cX5_value 39 = .ok (.iadd, 1) := by decide +kernel
theorem dX5_value_40 : decode cX5_value 40 = .ok (.aload_n 0, 1) := by decide +kernel
theorem dX5_value_41 : decode cX5_value 41 = .ok (.getfield 31, 3) := by decide +kernel
theorem dX5_value_44 : decode cX5_value 44 = .ok (.arraylength, 1) := by decide +kernel
theorem dX5_value_45 : decode cX5_value 45 = .ok (.if_icmp .ge 54, 3) := by decide +kernel
theorem dX5_value_48 : decode cX5_value 48 = .ok (.iinc 4 1, 3) := by decide +kernel
theorem dX5_value_51 : decode cX5_value 51 = .ok (.aload_n 0, 1) := by decide +kernel
theorem dX5_value_52 : decode cX5_value 52 = .ok (.getfield 31, 3) := by decide +kernel
theorem dX5_value_55 : decode cX5_value 55 = .ok (.iload 4, 2) := by decide +kernel
theorem dX5_value_57 : decode cX5_value 57 = .ok (.iload 8, 2) := by decide +kernel
theorem dX5_value_59 : decode cX5_value 59 = .ok (.sipush 10000, 3) := by decide +kernel
theorem dX5_value_62 : decode cX5_value 62 = .ok (.if_icmp .ge 8, 3) := by decide +kernel
theorem dX5_value_65 : decode cX5_value 65 = .ok (.iload 8, 2) := by decide +kernel
theorem dX5_value_67 : decode cX5_value 67 = .ok (.goto 28, 3) := by decide +kernel
theorem dX5_value_70 : decode cX5_value 70 = .ok (.iload 8, 2) := by decide +kernel
theorem dX5_value_72 : decode cX5_value 72 = .ok (.sipush 10000, 3) := by decide +kernel
theorem dX5_value_75 : decode cX5_value 75 = .ok (.if_icmp .ne 7, 3) := by decide +kernel
theorem dX5_value_78 : decode cX5_value 78 = .ok (.iload_n 1, 1) := by decide +kernel
theorem dX5_value_79 : decode cX5_value 79 = .ok (.goto 16, 3) := by decide +kernel
theorem dX5_value_82 : decode cX5_value 82 = .ok (.iload 8, 2) := by decide +kernel
theorem dX5_value_84 : decode cX5_value 84 = .ok (.sipush 10001, 3) := by decide +kernel
theorem dX5_value_87 : decode cX5_value 87 = .ok (.if_icmp .ne 7, 3) := by decide +kernel
theorem dX5_value_90 : decode cX5_value 90 = .ok (.iload_n 2, 1) := by decide +kernel
theorem dX5_value_91 : decode cX5_value 91 = .ok (.goto 4, 3) := by decide +kernel
theorem dX5_value_94 : decode cX5_value 94 = .ok (.iload_n 3, 1) := by decide +kernel
theorem dX5_value_95 : decode cX5_value 95 = .ok (.iastore, 1) := by decide +kernel
theorem dX5_value_96 : decode cX5_value 96 = .ok (.goto 83, 3) := by decide +kernel
theorem dX5_value_99 : decode cX5_value 99 = .ok (.iload 8, 2) := by decide +kernel
theorem dX5_value_101 : decode cX5_value 101 = .ok (.bipush (-33), 2) := by decide +kernel
theorem dX5_value_103 : decode cX5_value 103 = .ok (.if_icmp .ne 33, 3) := by decide +kernel
theorem dX5_value_106 : decode cX5_value 106 = .ok (.iload 4, 2) := by decide +kernel
theorem dX5_value_108 : decode cX5_value 108 = .ok (.ifCond .lt 28, 3) := by decide +kernel
theorem dX5_value_111 : decode cX5_value 111 = .ok (.aload_n 0, 1) := by decide +kernel
theorem dX5_value_112 : decode cX5_value 112 = .ok (.getfield 31, 3) := by decide +kernel
theorem dX5_value_115 : decode cX5_value 115 = .ok (.iload 4, 2) := by decide +kernel
theorem dX5_value_117 : decode cX5_value 117 = .ok (.aload_n 0, 1) := by decide +kernel
theorem dX5_value_118 : decode cX5_value 118 = .ok (.getfield 31, 3) := by decide +kernel
theorem dX5_value_121 : decode cX5_value 121 = .ok (.iload 4, 2) := by decide +kernel
theorem dX5_value_123 : decode cX5_value 123 = .ok (.iaload, 1) := by decide +kernel
theorem dX5_value_124 : decode cX5_value 124 = .ok (.ifCond .ne 7, 3) := by decide +kernel
theorem dX5_value_127 : decode cX5_value 127 = .ok (.iconst 1, 1) := by decide +kernel
theorem dX5_value_128 : decode cX5_value 128 = .ok (.goto 4, 3) := by decide +kernel
theorem dX5_value_131 : decode cX5_value 131 = .ok (.iconst 0, 1) := by decide +kernel
theorem dX5_value_132 : decode cX5_value 132 = .ok (.iastore, 1) := by decide +kernel
theorem dX5_value_133 : decode cX5_value 133 = .ok (.goto 46, 3) := by decide +kernel
theorem dX5_value_136 : decode cX5_value 136 = .ok (.iload 8, 2) := by decide +kernel
theorem dX5_value_138 : decode cX5_value 138 = .ok (.ifCond .ge 41, 3) := by decide +kernel
theorem dX5_value_141 : decode cX5_value 141 = .ok (.iload 4, 2) := by decide +kernel
theorem dX5_value_143 : decode cX5_value 143 = .ok (.iconst 1, 1) := by decide +kernel
theorem dX5_value_144 : decode cX5_value 144 = .ok (.if_icmp .lt 35, 3) := by decide +kernel
theorem dX5_value_147 : decode cX5_value 147 = .ok (.iinc 4 (-1), 3) := by decide +kernel
theorem dX5_value_150 : decode cX5_value 150 = .ok (.aload_n 0, 1) := by decide +kernel
theorem dX5_value_151 : decode cX5_value 151 = .ok (.getfield 31, 3) := by decide +kernel
theorem dX5_value_154 : decode cX5_value 154 = .ok (.iload 4, 2) := by decide +kernel
theorem dX5_value_156 : decode cX5_value 156 = .ok (.iload 8, 2) := by decide +kernel
theorem dX5_value_158 : decode cX5_value 158 = .ok (.ineg, 1) := by decide +kernel
theorem dX5_value_159 : decode cX5_value 159 = .ok (.aload_n 0, 1) := by decide +kernel
theorem dX5_value_160 : decode cX5_value 160 = .ok (.getfield 31, 3) := by decide +kernel
theorem dX5_value_163 : decode cX5_value 163 = .ok (.iload 4, 2) := by decide +kernel
theorem dX5_value_165 : decode cX5_value 165 = .ok (.iaload, 1) := by decide +kernel
theorem dX5_value_166 : decode cX5_value 166 = .ok (.aload_n 0, 1) := by decide +kernel
theorem dX5_value_167 : decode cX5_value 167 = .ok (.getfield 31, 3) := by decide +kernel
theorem dX5_value_170 : decode cX5_value 170 = .ok (.iload 4, 2) := by decide +kernel
theorem dX5_value_172 : decode cX5_value 172 = .ok (.iconst 1, 1) := by decide +kernel
theorem dX5_value_173 : decode cX5_value 173 = .ok (.iadd, 1) := by decide +kernel
theorem dX5_value_174 : decode cX5_value 174 = .ok (.iaload, 1) := by decide +kernel
theorem dX5_value_175 : decode cX5_value 175 = .ok (.invokestatic 34, 3) := by decide +kernel
theorem dX5_value_178 : decode cX5_value 178 = .ok (.iastore, 1) := by decide +kernel
theorem dX5_value_179 : decode cX5_value 179 = .ok (.iinc 7 1, 3) := by decide +kernel
theorem dX5_value_182 : decode cX5_value 182 = .ok (.goto (-165), 3) := by decide +kernel
theorem dX5_value_185 : decode cX5_value 185 = .ok (.iload 4, 2) := by decide +kernel
theorem dX5_value_187 : decode cX5_value 187 = .ok (.ifCond .lt 12, 3) := by decide +kernel
theorem dX5_value_190 : decode cX5_value 190 = .ok (.aload_n 0, 1) := by decide +kernel
theorem dX5_value_191 : decode cX5_value 191 = .ok (.getfield 31, 3) := by decide +kernel
theorem dX5_value_194 : decode cX5_value 194 = .ok (.iconst 0, 1) := by decide +kernel
theorem dX5_value_195 : decode cX5_value 195 = .ok (.iaload, 1) := by decide +kernel
theorem dX5_value_196 : decode cX5_value 196 = .ok (.goto 4, 3) := by decide +kernel
theorem dX5_value_199 : decode cX5_value 199 = .ok (.iconst 0, 1) := by decide +kernel
theorem dX5_value_200 : decode cX5_value 200 = .ok (.ireturn, 1) := by decide +kernel
theorem dX5_joined_0 : decode cX5_joined 0 = .ok (.iload_n 0, 1) := by decide +kernel
theorem dX5_joined_1 : decode cX5_joined 1 = .ok (.tableswitch 186 38 62 #[172, 186, 186, 186, 123, 115, 186, 119, 186, 127, 186, 186, 186, 186, 186, 186, 186, 186, 186, 186, 186, 186, 139, 150, 161], 115) := by decide +kernel
theorem dX5_joined_116 : decode cX5_joined 116 = .ok (.iload_n 1, 1) := by decide +kernel
theorem dX5_joined_117 : decode cX5_joined 117 = .ok (.iload_n 2, 1) := by decide +kernel
theorem dX5_joined_118 : decode cX5_joined 118 = .ok (.iadd, 1) := by decide +kernel
theorem dX5_joined_119 : decode cX5_joined 119 = .ok (.ireturn, 1) := by decide +kernel
theorem dX5_joined_120 : decode cX5_joined 120 = .ok (.iload_n 1, 1) := by decide +kernel
theorem dX5_joined_121 : decode cX5_joined 121 = .ok (.iload_n 2, 1) := by decide +kernel
theorem dX5_joined_122 : decode cX5_joined 122 = .ok (.isub, 1) := by decide +kernel
theorem dX5_joined_123 : decode cX5_joined 123 = .ok (.ireturn, 1) := by decide +kernel
theorem dX5_joined_124 : decode cX5_joined 124 = .ok (.iload_n 1, 1) := by decide +kernel
theorem dX5_joined_125 : decode cX5_joined 125 = .ok (.iload_n 2, 1) := by decide +kernel
theorem dX5_joined_126 : decode cX5_joined 126 = .ok (.imul, 1) := by decide +kernel
theorem dX5_joined_127 : decode cX5_joined 127 = .ok (.ireturn, 1) := by decide +kernel
theorem dX5_joined_128 : decode cX5_joined 128 = .ok (.iload_n 2, 1) := by decide +kernel
theorem dX5_joined_129 : decode cX5_joined 129 = .ok (.ifCond .ne 7, 3) := by decide +kernel
theorem dX5_joined_132 : decode cX5_joined 132 = .ok (.iconst 0, 1) := by decide +kernel
theorem dX5_joined_133 : decode cX5_joined 133 = .ok (.goto 6, 3) := by decide +kernel
theorem dX5_joined_136 : decode cX5_joined 136 = .ok (.iload_n 1, 1) := by decide +kernel
theorem dX5_joined_137 : decode cX5_joined 137 = .ok (.iload_n 2, 1) := by decide +kernel
theorem dX5_joined_138 : decode cX5_joined 138 = .ok (.idiv, 1) := by decide +kernel
theorem dX5_joined_139 : decode cX5_joined 139 = .ok (.ireturn, 1) := by decide +kernel
theorem dX5_joined_140 : decode cX5_joined 140 = .ok (.iload_n 1, 1) := by decide +kernel
theorem dX5_joined_141 : decode cX5_joined 141 = .ok (.iload_n 2, 1) := by decide +kernel
theorem dX5_joined_142 : decode cX5_joined 142 = .ok (.if_icmp .ge 7, 3) := by decide +kernel
theorem dX5_joined_145 : decode cX5_joined 145 = .ok (.iconst 1, 1) := by decide +kernel
theorem dX5_joined_146 : decode cX5_joined 146 = .ok (.goto 4, 3) := by decide +kernel
theorem dX5_joined_149 : decode cX5_joined 149 = .ok (.iconst 0, 1) := by decide +kernel
theorem dX5_joined_150 : decode cX5_joined 150 = .ok (.ireturn, 1) := by decide +kernel
theorem dX5_joined_151 : decode cX5_joined 151 = .ok (.iload_n 1, 1) := by decide +kernel
theorem dX5_joined_152 : decode cX5_joined 152 = .ok (.iload_n 2, 1) := by decide +kernel
theorem dX5_joined_153 : decode cX5_joined 153 = .ok (.if_icmp .ne 7, 3) := by decide +kernel
theorem dX5_joined_156 : decode cX5_joined 156 = .ok (.iconst 1, 1) := by decide +kernel
theorem dX5_joined_157 : decode cX5_joined 157 = .ok (.goto 4, 3) := by decide +kernel
theorem dX5_joined_160 : decode cX5_joined 160 = .ok (.iconst 0, 1) := by decide +kernel
theorem dX5_joined_161 : decode cX5_joined 161 = .ok (.ireturn, 1) := by decide +kernel
theorem dX5_joined_162 : decode cX5_joined 162 = .ok (.iload_n 1, 1) := by decide +kernel
theorem dX5_joined_163 : decode cX5_joined 163 = .ok (.iload_n 2, 1) := by decide +kernel
theorem dX5_joined_164 : decode cX5_joined 164 = .ok (.if_icmp .le 7, 3) := by decide +kernel
theorem dX5_joined_167 : decode cX5_joined 167 = .ok (.iconst 1, 1) := by decide +kernel
theorem dX5_joined_168 : decode cX5_joined 168 = .ok (.goto 4, 3) := by decide +kernel
theorem dX5_joined_171 : decode cX5_joined 171 = .ok (.iconst 0, 1) := by decide +kernel
theorem dX5_joined_172 : decode cX5_joined 172 = .ok (.ireturn, 1) := by decide +kernel
theorem dX5_joined_173 : decode cX5_joined 173 = .ok (.iload_n 1, 1) := by decide +kernel
theorem dX5_joined_174 : decode cX5_joined 174 = .ok (.ifCond .eq 11, 3) := by decide +kernel
theorem dX5_joined_177 : decode cX5_joined 177 = .ok (.iload_n 2, 1) := by decide +kernel
theorem dX5_joined_178 : decode cX5_joined 178 = .ok (.ifCond .eq 7, 3) := by decide +kernel
theorem dX5_joined_181 : decode cX5_joined 181 = .ok (.iconst 1, 1) := by decide +kernel
theorem dX5_joined_182 : decode cX5_joined 182 = .ok (.goto 4, 3) := by decide +kernel
theorem dX5_joined_185 : decode cX5_joined 185 = .ok (.iconst 0, 1) := by decide +kernel
theorem dX5_joined_186 : decode cX5_joined 186 = .ok (.ireturn, 1) := by decide +kernel
theorem dX5_joined_187 : decode cX5_joined 187 = .ok (.iload_n 1, 1) := by decide +kernel
theorem dX5_joined_188 : decode cX5_joined 188 = .ok (.ifCond .ne 7, 3) := by decide +kernel
theorem dX5_joined_191 : decode cX5_joined 191 = .ok (.iload_n 2, 1) := by decide +kernel
theorem dX5_joined_192 : decode cX5_joined 192 = .ok (.ifCond .eq 7, 3) := by decide +kernel
theorem dX5_joined_195 : decode cX5_joined 195 = .ok (.iconst 1, 1) := by decide +kernel
theorem dX5_joined_196 : decode cX5_joined 196 = .ok (.goto 4, 3) := by decide +kernel
theorem dX5_joined_199 : decode cX5_joined 199 = .ok (.iconst 0, 1) := by decide +kernel
theorem dX5_joined_200 : decode cX5_joined 200 = .ok (.ireturn, 1) := by decide +kernel
