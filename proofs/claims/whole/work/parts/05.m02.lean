theorem dX7_textTold_30 : decode cX7_textTold 30 = .ok (.iload_n 2, 1) := by decide +kernel
theorem dX7_textTold_31 : decode cX7_textTold 31 = .ok (.iadd, 1) := by decide +kernel
theorem dX7_textTold_32 : decode cX7_textTold 32 = .ok (.iaload, 1) := by decide +kernel
theorem dX7_textTold_33 : decode cX7_textTold 33 = .ok (.ireturn, 1) := by decide +kernel
theorem dX7_counts_0 : decode cX7_counts 0 = .ok (.iconst (-1), 1) := by decide +kernel
theorem dX7_counts_1 : decode cX7_counts 1 = .ok (.istore_n 2, 1) := by decide +kernel
theorem dX7_counts_2 : decode cX7_counts 2 = .ok (.iconst 0, 1) := by decide +kernel
theorem dX7_counts_3 : decode cX7_counts 3 = .ok (.istore_n 3, 1) := by decide +kernel
theorem dX7_counts_4 : decode cX7_counts 4 = .ok (.iload_n 3, 1) := by decide +kernel
theorem dX7_counts_5 : decode cX7_counts 5 = .ok (.aload_n 0, 1) := by decide +kernel
theorem dX7_counts_6 : decode cX7_counts 6 = .ok (.getfield 7, 3) := by decide +kernel
theorem dX7_counts_9 : decode cX7_counts 9 = .ok (.iconst 1, 1) := by decide +kernel
theorem dX7_counts_10 : decode cX7_counts 10 = .ok (.iaload, 1) := by decide +kernel
theorem dX7_counts_11 : decode cX7_counts 11 = .ok (.if_icmp .ge 29, 3) := by decide +kernel
theorem dX7_counts_14 : decode cX7_counts 14 = .ok (.aload_n 0, 1) := by decide +kernel
theorem dX7_counts_15 : decode cX7_counts 15 = .ok (.getfield 7, 3) := by decide +kernel
theorem dX7_counts_18 : decode cX7_counts 18 = .ok (.aload_n 0, 1) := by decide +kernel
theorem dX7_counts_19 : decode cX7_counts 19 = .ok (.iload_n 3, 1) := by decide +kernel
theorem dX7_counts_20 : decode cX7_counts 20 = .ok (.invokevirtual 283, 3) := by decide +kernel
theorem dX7_counts_23 : decode cX7_counts 23 = .ok (.iaload, 1) := by decide +kernel
theorem dX7_counts_24 : decode cX7_counts 24 = .ok (.iload_n 1, 1) := by decide +kernel
theorem dX7_counts_25 : decode cX7_counts 25 = .ok (.if_icmp .ne 7, 3) := by decide +kernel
theorem dX7_counts_28 : decode cX7_counts 28 = .ok (.iload_n 3, 1) := by decide +kernel
theorem dX7_counts_29 : decode cX7_counts 29 = .ok (.goto 4, 3) := by decide +kernel
theorem dX7_counts_32 : decode cX7_counts 32 = .ok (.iload_n 2, 1) := by decide +kernel
theorem dX7_counts_33 : decode cX7_counts 33 = .ok (.istore_n 2, 1) := by decide +kernel
theorem dX7_counts_34 : decode cX7_counts 34 = .ok (.iinc 3 1, 3) := by decide +kernel
theorem dX7_counts_37 : decode cX7_counts 37 = .ok (.goto (-33), 3) := by decide +kernel
theorem dX7_counts_40 : decode cX7_counts 40 = .ok (.iload_n 2, 1) := by decide +kernel
theorem dX7_counts_41 : decode cX7_counts 41 = .ok (.ireturn, 1) := by decide +kernel
theorem dX7_why_0 : decode cX7_why 0 = .ok (.iload_n 1, 1) := by decide +kernel
theorem dX7_why_1 : decode cX7_why 1 = .ok (.i2l, 1) := by decide +kernel
theorem dX7_why_2 : decode cX7_why 2 = .ok (.lconst 0, 1) := by decide +kernel
theorem dX7_why_3 : decode cX7_why 3 = .ok (.ldc2_w 295, 3) := by decide +kernel
theorem dX7_why_6 : decode cX7_why 6 = .ok (.invokestatic 71, 3) := by decide +kernel
theorem dX7_why_9 : decode cX7_why 9 = .ok (.ifCond .eq 14, 3) := by decide +kernel
theorem dX7_why_12 : decode cX7_why 12 = .ok (.aload_n 0, 1) := by decide +kernel
theorem dX7_why_13 : decode cX7_why 13 = .ok (.iload_n 1, 1) := by decide +kernel
theorem dX7_why_14 : decode cX7_why 14 = .ok (.invokevirtual 109, 3) := by decide +kernel
theorem dX7_why_17 : decode cX7_why 17 = .ok (.invokestatic 190, 3) := by decide +kernel
theorem dX7_why_20 : decode cX7_why 20 = .ok (.goto 5, 3) := by decide +kernel
theorem dX7_why_23 : decode cX7_why 23 = .ok (.ldc 100, 2) := by decide +kernel
theorem dX7_why_25 : decode cX7_why 25 = .ok (.ireturn, 1) := by decide +kernel
theorem dX7_joined_0 : decode cX7_joined 0 = .ok (.iload_n 0, 1) := by decide +kernel
theorem dX7_joined_1 : decode cX7_joined 1 = .ok (.tableswitch 196 38 62 #[182, 196, 196, 196, 123, 115, 196, 119, 196, 127, 196, 196, 196, 196, 196, 196, 196, 196, 196, 196, 196, 196, 149, 171, 160], 115) := by decide +kernel
theorem dX7_joined_116 : decode cX7_joined 116 = .ok (.iload_n 1, 1) := by decide +kernel
theorem dX7_joined_117 : decode cX7_joined 117 = .ok (.iload_n 2, 1) := by decide +kernel
theorem dX7_joined_118 : decode cX7_joined 118 = .ok (.iadd, 1) := by decide +kernel
theorem dX7_joined_119 : decode cX7_joined 119 = .ok (.ireturn, 1) := by decide +kernel
theorem dX7_joined_120 : decode cX7_joined 120 = .ok (.iload_n 1, 1) := by decide +kernel
theorem dX7_joined_121 : decode cX7_joined 121 = .ok (.iload_n 2, 1) := by decide +kernel
theorem dX7_joined_122 : decode cX7_joined 122 = .ok (.isub, 1) := by decide +kernel
theorem dX7_joined_123 : decode cX7_joined 123 = .ok (.ireturn, 1) := by decide +kernel
theorem dX7_joined_124 : decode cX7_joined 124 = .ok (.iload_n 1, 1) := by decide +kernel
theorem dX7_joined_125 : decode cX7_joined 125 = .ok (.iload_n 2, 1) := by decide +kernel
theorem dX7_joined_126 : decode cX7_joined 126 = .ok (.imul, 1) := by decide +kernel
theorem dX7_joined_127 : decode cX7_joined 127 = .ok (.ireturn, 1) := by decide +kernel
theorem dX7_joined_128 : decode cX7_joined 128 = .ok (.iload_n 2, 1) := by decide +kernel
theorem dX7_joined_129 : decode cX7_joined 129 = .ok (.ifCond .ne 7, 3) := by decide +kernel
theorem dX7_joined_132 : decode cX7_joined 132 = .ok (.iconst 0, 1) := by decide +kernel
theorem dX7_joined_133 : decode cX7_joined 133 = .ok (.goto 16, 3) := by decide +kernel
theorem dX7_joined_136 : decode cX7_joined 136 = .ok (.iload_n 2, 1) := by decide +kernel
theorem dX7_joined_137 : decode cX7_joined 137 = .ok (.iconst (-1), 1) := by decide +kernel
theorem dX7_joined_138 : decode cX7_joined 138 = .ok (.if_icmp .ne 8, 3) := by decide +kernel
theorem dX7_joined_141 : decode cX7_joined 141 = .ok (.iload_n 1, 1) := by decide +kernel
theorem dX7_joined_142 : decode cX7_joined 142 = .ok (.ineg, 1) := by decide +kernel
theorem dX7_joined_143 : decode cX7_joined 143 = .ok (.goto 6, 3) := by decide +kernel
theorem dX7_joined_146 : decode cX7_joined 146 = .ok (.iload_n 1, 1) := by decide +kernel
theorem dX7_joined_147 : decode cX7_joined 147 = .ok (.iload_n 2, 1) := by decide +kernel
theorem dX7_joined_148 : decode cX7_joined 148 = .ok (.idiv, 1) := by decide +kernel
theorem dX7_joined_149 : decode cX7_joined 149 = .ok (.ireturn, 1) := by decide +kernel
theorem dX7_joined_150 : decode cX7_joined 150 = .ok (.iload_n 1, 1) := by decide +kernel
theorem dX7_joined_151 : decode cX7_joined 151 = .ok (.iload_n 2, 1) := by decide +kernel
theorem dX7_joined_152 : decode cX7_joined 152 = .ok (.if_icmp .ge 7, 3) := by decide +kernel
theorem dX7_joined_155 : decode cX7_joined 155 = .ok (.iconst 1, 1) := by decide +kernel
theorem dX7_joined_156 : decode cX7_joined 156 = .ok (.goto 4, 3) := by decide +kernel
theorem dX7_joined_159 : decode cX7_joined 159 = .ok (.iconst 0, 1) := by decide +kernel
theorem dX7_joined_160 : decode cX7_joined 160 = .ok (.ireturn, 1) := by decide +kernel
theorem dX7_joined_161 : decode cX7_joined 161 = .ok (.iload_n 1, 1) := by decide +kernel
theorem dX7_joined_162 : decode cX7_joined 162 = .ok (.iload_n 2, 1) := by decide +kernel
theorem dX7_joined_163 : decode cX7_joined 163 = .ok (.if_icmp .le 7, 3) := by decide +kernel
theorem dX7_joined_166 : decode cX7_joined 166 = .ok (.iconst 1, 1) := by decide +kernel
theorem dX7_joined_167 : decode cX7_joined 167 = .ok (.goto 4, 3) := by decide +kernel
theorem dX7_joined_170 : decode cX7_joined 170 = .ok (.iconst 0, 1) := by decide +kernel
theorem dX7_joined_171 : decode cX7_joined 171 = .ok (.ireturn, 1) := by decide +kernel
theorem dX7_joined_172 : decode cX7_joined 172 = .ok (.iload_n 1, 1) := by decide +kernel
theorem dX7_joined_173 : decode cX7_joined 173 = .ok (.iload_n 2, 1) := by decide +kernel
theorem dX7_joined_174 : decode cX7_joined 174 = .ok (.if_icmp .ne 7, 3) := by decide +kernel
theorem dX7_joined_177 : decode cX7_joined 177 = .ok (.iconst 1, 1) := by decide +kernel
theorem dX7_joined_178 : decode cX7_joined 178 = .ok (.goto 4, 3) := by decide +kernel
theorem dX7_joined_181 : decode cX7_joined 181 = .ok (.iconst 0, 1) := by decide +kernel
theorem dX7_joined_182 : decode cX7_joined 182 = .ok (.ireturn, 1) := by decide +kernel
theorem dX7_joined_183 : decode cX7_joined 183 = .ok (.iload_n 1, 1) := by decide +kernel
theorem dX7_joined_184 : decode cX7_joined 184 = .ok (.ifCond .eq 11, 3) := by decide +kernel
theorem dX7_joined_187 : decode cX7_joined 187 = .ok (.iload_n 2, 1) := by decide +kernel
theorem dX7_joined_188 : decode cX7_joined 188 = .ok (.ifCond .eq 7, 3) := by decide +kernel
theorem dX7_joined_191 : decode cX7_joined 191 = .ok (.iconst 1, 1) := by decide +kernel
theorem dX7_joined_192 : decode cX7_joined 192 = .ok (.goto 4, 3) := by decide +kernel
theorem dX7_joined_195 : decode cX7_joined 195 = .ok (.iconst 0, 1) := by decide +kernel
theorem dX7_joined_196 : decode cX7_joined 196 = .ok (.ireturn, 1) := by decide +kernel
theorem dX7_joined_197 : decode cX7_joined 197 = .ok (.iload_n 1, 1) := by decide +kernel
theorem dX7_joined_198 : decode cX7_joined 198 = .ok (.ifCond .ne 7, 3) := by decide +kernel
theorem dX7_joined_201 : decode cX7_joined 201 = .ok (.iload_n 2, 1) := by decide +kernel
theorem dX7_joined_202 : decode cX7_joined 202 = .ok (.ifCond .eq 7, 3) := by decide +kernel
theorem dX7_joined_205 : decode cX7_joined 205 = .ok (.iconst 1, 1) := by decide +kernel
theorem dX7_joined_206 : decode cX7_joined 206 = .ok (.goto 4, 3) := by decide +kernel
theorem dX7_joined_209 : decode cX7_joined 209 = .ok (.iconst 0, 1) := by decide +kernel
theorem dX7_joined_210 : decode cX7_joined 210 = .ok (.ireturn, 1) := by decide +kernel
theorem dX7_worked_0 : decode cX7_worked 0 = .ok (.iconst 0, 1) := by decide +kernel
theorem dX7_worked_1 : decode cX7_worked 1 = .ok (.istore_n 2, 1) := by decide +kernel
theorem dX7_worked_2 : decode cX7_worked 2 = .ok (.iconst 0, 1) := by decide +kernel
theorem dX7_worked_3 : decode cX7_worked 3 = .ok (.istore_n 3, 1) := by decide +kernel
theorem dX7_worked_4 : decode cX7_worked 4 = .ok (.iload_n 3, 1) := by decide +kernel
theorem dX7_worked_5 : decode cX7_worked 5 = .ok (.aload_n 0, 1) := by decide +kernel
theorem dX7_worked_6 : decode cX7_worked 6 = .ok (.getfield 7, 3) := by decide +kernel
theorem dX7_worked_9 : decode cX7_worked 9 = .ok (.aload_n 0, 1) := by decide +kernel
theorem dX7_worked_10 : decode cX7_worked 10 = .ok (.iload_n 1, 1) := by decide +kernel
theorem dX7_worked_11 : decode cX7_worked 11 = .ok (.invokevirtual 283, 3) := by decide +kernel
theorem dX7_worked_14 : decode cX7_worked 14 = .ok (.iconst 2, 1) := by decide +kernel
theorem dX7_worked_15 : decode cX7_worked 15 = .ok (.iadd, 1) := by decide +kernel
theorem dX7_worked_16 : decode cX7_worked 16 = .ok (.iaload, 1) := by decide +kernel
theorem dX7_worked_17 : decode cX7_worked 17 = .ok (.if_icmp .ge 146, 3) := by decide +kernel
theorem dX7_worked_20 : decode cX7_worked 20 = .ok (.aload_n 0, 1) := by decide +kernel
theorem dX7_worked_21 : decode cX7_worked 21 = .ok (.getfield 7, 3) := by decide +kernel
theorem dX7_worked_24 : decode cX7_worked 24 = .ok (.aload_n 0, 1) := by decide +kernel
theorem dX7_worked_25 : decode cX7_worked 25 = .ok (.iload_n 1, 1) := by decide +kernel
theorem dX7_worked_26 : decode cX7_worked 26 = .ok (.invokevirtual 283, 3) := by decide +kernel
theorem dX7_worked_29 : decode cX7_worked 29 = .ok (.iconst 4, 1) := by decide +kernel
theorem dX7_worked_30 : decode cX7_worked 30 = .ok (.iadd, 1) := by decide +kernel
theorem dX7_worked_31 : decode cX7_worked 31 = .ok (.iconst 2, 1) := by decide +kernel
theorem dX7_worked_32 : decode cX7_worked 32 = .ok (.iload_n 3, 1) := by decide +kernel
theorem dX7_worked_33 : decode cX7_worked 33 = .ok (.imul, 1) := by decide +kernel
theorem dX7_worked_34 : decode cX7_worked 34 = .ok (.iadd, 1) := by decide +kernel
theorem dX7_worked_35 : decode cX7_worked 35 = .ok (.iaload, 1) := by decide +kernel
theorem dX7_worked_36 : decode cX7_worked 36 = .ok (.istore 4, 2) := by decide +kernel
theorem dX7_worked_38 : decode cX7_worked 38 = .ok (.aload_n 0, 1) := by decide +kernel
theorem dX7_worked_39 : decode cX7_worked 39 = .ok (.getfield 7, 3) := by decide +kernel
theorem dX7_worked_42 : decode cX7_worked 42 = .ok (.aload_n 0, 1) := by decide +kernel
theorem dX7_worked_43 : decode cX7_worked 43 = .ok (.iload_n 1, 1) := by decide +kernel
theorem dX7_worked_44 : decode cX7_worked 44 = .ok (.invokevirtual 283, 3) := by decide +kernel
theorem dX7_worked_47 : decode cX7_worked 47 = .ok (.iconst 4, 1) := by decide +kernel
theorem dX7_worked_48 : decode cX7_worked 48 = .ok (.iadd, 1) := by decide +kernel
theorem dX7_worked_49 : decode cX7_worked 49 = .ok (.iconst 2, 1) := by decide +kernel
theorem dX7_worked_50 : decode cX7_worked 50 = .ok (.iload_n 3, 1) := by decide +kernel
theorem dX7_worked_51 : decode cX7_worked 51 = .ok (.imul, 1) := by decide +kernel
theorem dX7_worked_52 : decode cX7_worked 52 = .ok (.iadd, 1) := by decide +kernel
theorem dX7_worked_53 : decode cX7_worked 53 = .ok (.iconst 1, 1) := by decide +kernel
theorem dX7_worked_54 : decode cX7_worked 54 = .ok (.iadd, 1) := by decide +kernel
theorem dX7_worked_55 : decode cX7_worked 55 = .ok (.iaload, 1) := by decide +kernel
theorem dX7_worked_56 : decode cX7_worked 56 = .ok (.istore 5, 2) := by decide +kernel
theorem dX7_worked_58 : decode cX7_worked 58 = .ok (.iload 4, 2) := by decide +kernel
theorem dX7_worked_60 : decode cX7_worked 60 = .ok (.iconst 2, 1) := by decide +kernel
theorem dX7_worked_61 : decode cX7_worked 61 = .ok (.if_icmp .eq 32, 3) := by decide +kernel
theorem dX7_worked_64 : decode cX7_worked 64 = .ok (.aload_n 0, 1) := by decide +kernel
theorem dX7_worked_65 : decode cX7_worked 65 = .ok (.getfield 58, 3) := by decide +kernel
theorem dX7_worked_68 : decode cX7_worked 68 = .ok (.iload_n 2, 1) := by decide +kernel
theorem dX7_worked_69 : decode cX7_worked 69 = .ok (.iload 4, 2) := by decide +kernel
theorem dX7_worked_71 : decode cX7_worked 71 = .ok (.ifCond .ne 8, 3) := by decide +kernel
theorem dX7_worked_74 : decode cX7_worked 74 = .ok (.iload 5, 2) := by decide +kernel
theorem dX7_worked_76 : decode cX7_worked 76 = .ok (.goto 10, 3) := by decide +kernel
theorem dX7_worked_79 : decode cX7_worked 79 = .ok (.aload_n 0, 1) := by decide +kernel
theorem dX7_worked_80 : decode cX7_worked 80 = .ok (.getfield 55, 3) := by decide +kernel
theorem dX7_worked_83 : decode cX7_worked 83 = .ok (.iload 5, 2) := by decide +kernel
theorem dX7_worked_85 : decode cX7_worked 85 = .ok (.iaload, 1) := by decide +kernel
theorem dX7_worked_86 : decode cX7_worked 86 = .ok (.iastore, 1) := by decide +kernel
theorem dX7_worked_87 : decode cX7_worked 87 = .ok (.iinc 2 1, 3) := by decide +kernel
theorem dX7_worked_90 : decode cX7_worked 90 = .ok (.goto 67, 3) := by decide +kernel
theorem dX7_worked_93 : decode cX7_worked 93 = .ok (.iload 5, 2) := by decide +kernel
theorem dX7_worked_95 : decode cX7_worked 95 = .ok (.bipush 33, 2) := by decide +kernel
theorem dX7_worked_97 : decode cX7_worked 97 = .ok (.if_icmp .ne 30, 3) := by decide +kernel
theorem dX7_worked_100 : decode cX7_worked 100 = .ok (.aload_n 0, 1) := by decide +kernel
theorem dX7_worked_101 : decode cX7_worked 101 = .ok (.getfield 58, 3) := by decide +kernel
theorem dX7_worked_104 : decode cX7_worked 104 = .ok (.iload_n 2, 1) := by decide +kernel
theorem dX7_worked_105 : decode cX7_worked 105 = .ok (.iconst 1, 1) := by decide +kernel
theorem dX7_worked_106 : decode cX7_worked 106 = .ok (.isub, 1) := by decide +kernel
theorem dX7_worked_107 : decode cX7_worked 107 = .ok (.aload_n 0, 1) := by decide +kernel
theorem dX7_worked_108 : decode cX7_worked 108 = .ok (.getfield 58, 3) := by decide +kernel
theorem dX7_worked_111 : decode cX7_worked 111 = .ok (.iload_n 2, 1) := by decide +kernel
theorem dX7_worked_112 : decode cX7_worked 112 = .ok (.iconst 1, 1) := by decide +kernel
theorem dX7_worked_113 : decode cX7_worked 113 = .ok (.isub, 1) := by decide +kernel
theorem dX7_worked_114 : decode cX7_worked 114 = .ok (.iaload, 1) := by decide +kernel
theorem dX7_worked_115 : decode cX7_worked 115 = .ok (.ifCond .ne 7, 3) := by decide +kernel
theorem dX7_worked_118 : decode cX7_worked 118 = .ok (.iconst 1, 1) := by decide +kernel
theorem dX7_worked_119 : decode cX7_worked 119 = .ok (.goto 4, 3) := by decide +kernel
theorem dX7_worked_122 : decode cX7_worked 122 = .ok (.iconst 0, 1) := by decide +kernel
theorem dX7_worked_123 : decode cX7_worked 123 = .ok (.iastore, 1) := by decide +kernel
theorem dX7_worked_124 : decode cX7_worked 124 = .ok (.goto 33, 3) := by decide +kernel
theorem dX7_worked_127 : decode cX7_worked 127 = .ok (.iinc 2 (-1), 3) := by decide +kernel
theorem dX7_worked_130 : decode cX7_worked 130 = .ok (.aload_n 0, 1) := by decide +kernel
theorem dX7_worked_131 : decode cX7_worked 131 = .ok (.getfield 58, 3) := by decide +kernel
theorem dX7_worked_134 : decode cX7_worked 134 = .ok (.iload_n 2, 1) := by decide +kernel
theorem dX7_worked_135 : decode cX7_worked 135 = .ok (.iconst 1, 1) := by decide +kernel
theorem dX7_worked_136 : decode cX7_worked 136 = .ok (.isub, 1) := by decide +kernel
theorem dX7_worked_137 : decode cX7_worked 137 = .ok (.iload 5, 2) := by decide +kernel
theorem dX7_worked_139 : decode cX7_worked 139 = .ok (.aload_n 0, 1) := by decide +kernel
theorem dX7_worked_140 : decode cX7_worked 140 = .ok (.getfield 58, 3) := by decide +kernel
theorem dX7_worked_143 : decode cX7_worked 143 = .ok (.iload_n 2, 1) := by decide +kernel
theorem dX7_worked_144 : decode cX7_worked 144 = .ok (.iconst 1, 1) := by decide +kernel
theorem dX7_worked_145 : decode cX7_worked 145 = .ok (.isub, 1) := by decide +kernel
theorem dX7_worked_146 : decode cX7_worked 146 = .ok (.iaload, 1) := by decide +kernel
theorem dX7_worked_147 : decode cX7_worked 147 = .ok (.aload_n 0, 1) := by decide +kernel
theorem dX7_worked_148 : decode cX7_worked 148 = .ok (.getfield 58, 3) := by decide +kernel
theorem dX7_worked_151 : decode cX7_worked 151 = .ok (.iload_n 2, 1) := by decide +kernel
theorem dX7_worked_152 : decode cX7_worked 152 = .ok (.iaload, 1) := by decide +kernel
theorem dX7_worked_153 : decode cX7_worked 153 = .ok (.invokestatic 297, 3) := by decide +kernel
theorem dX7_worked_156 : decode cX7_worked 156 = .ok (.iastore, 1) := by decide +kernel
theorem dX7_worked_157 : decode cX7_worked 157 = .ok (.iinc 3 1, 3) := by decide +kernel
theorem dX7_worked_160 : decode cX7_worked 160 = .ok (.goto (-156), 3) := by decide +kernel
theorem dX7_worked_163 : decode cX7_worked 163 = .ok (.aload_n 0, 1) := by decide +kernel
theorem dX7_worked_164 : decode cX7_worked 164 = .ok (.getfield 58, 3) := by decide +kernel
theorem dX7_worked_167 : decode cX7_worked 167 = .ok (.iconst 0, 1) := by decide +kernel
theorem dX7_worked_168 : decode cX7_worked 168 = .ok (.iaload, 1) := by decide +kernel
theorem dX7_worked_169 : decode cX7_worked 169 = .ok (.ireturn, 1) := by decide +kernel
theorem dX7_isSheet_0 : decode cX7_isSheet 0 = .ok (.iload_n 0, 1) := by decide +kernel
theorem dX7_isSheet_1 : decode cX7_isSheet 1 = .ok (.i2l, 1) := by decide +kernel
theorem dX7_isSheet_2 : decode cX7_isSheet 2 = .ok (.lconst 0, 1) := by decide +kernel
theorem dX7_isSheet_3 : decode cX7_isSheet 3 = .ok (.ldc2_w 300, 3) := by decide +kernel
theorem dX7_isSheet_6 : decode cX7_isSheet 6 = .ok (.invokestatic 71, 3) := by decide +kernel
theorem dX7_isSheet_9 : decode cX7_isSheet 9 = .ok (.ireturn, 1) := by decide +kernel
theorem dX7_sheet_0 : decode cX7_sheet 0 = .ok (.iload_n 1, 1) := by decide +kernel
theorem dX7_sheet_1 : decode cX7_sheet 1 = .ok (.invokestatic 302, 3) := by decide +kernel
theorem dX7_sheet_4 : decode cX7_sheet 4 = .ok (.ifCond .eq 25, 3) := by decide +kernel
theorem dX7_sheet_7 : decode cX7_sheet 7 = .ok (.iload_n 2, 1) := by decide +kernel
theorem dX7_sheet_8 : decode cX7_sheet 8 = .ok (.i2l, 1) := by decide +kernel
theorem dX7_sheet_9 : decode cX7_sheet 9 = .ok (.ldc2_w 305, 3) := by decide +kernel
theorem dX7_sheet_12 : decode cX7_sheet 12 = .ok (.lconst 1, 1) := by decide +kernel
theorem dX7_sheet_13 : decode cX7_sheet 13 = .ok (.invokestatic 71, 3) := by decide +kernel
theorem dX7_sheet_16 : decode cX7_sheet 16 = .ok (.ifCond .eq 13, 3) := by decide +kernel
theorem dX7_sheet_19 : decode cX7_sheet 19 = .ok (.iload_n 2, 1) := by decide +kernel
theorem dX7_sheet_20 : decode cX7_sheet 20 = .ok (.ifCond .lt 12, 3) := by decide +kernel
theorem dX7_sheet_23 : decode cX7_sheet 23 = .ok (.iload_n 3, 1) := by decide +kernel
theorem dX7_sheet_24 : decode cX7_sheet 24 = .ok (.bipush 24, 2) := by decide +kernel
theorem dX7_sheet_26 : decode cX7_sheet 26 = .ok (.if_icmp .le 6, 3) := by decide +kernel
theorem dX7_sheet_29 : decode cX7_sheet 29 = .ok (.ldc 100, 2) := by decide +kernel
theorem dX7_sheet_31 : decode cX7_sheet 31 = .ok (.ireturn, 1) := by decide +kernel
theorem dX7_sheet_32 : decode cX7_sheet 32 = .ok (.iload_n 2, 1) := by decide +kernel
theorem dX7_sheet_33 : decode cX7_sheet 33 = .ok (.ifCond .lt 11, 3) := by decide +kernel
theorem dX7_sheet_36 : decode cX7_sheet 36 = .ok (.iload_n 3, 1) := by decide +kernel
theorem dX7_sheet_37 : decode cX7_sheet 37 = .ok (.ifCond .ge 7, 3) := by decide +kernel
theorem dX7_sheet_40 : decode cX7_sheet 40 = .ok (.ldc_w 307, 3) := by decide +kernel
theorem dX7_sheet_43 : decode cX7_sheet 43 = .ok (.ireturn, 1) := by decide +kernel
theorem dX7_sheet_44 : decode cX7_sheet 44 = .ok (.aload_n 0, 1) := by decide +kernel
theorem dX7_sheet_45 : decode cX7_sheet 45 = .ok (.getfield 19, 3) := by decide +kernel
theorem dX7_sheet_48 : decode cX7_sheet 48 = .ok (.iload_n 1, 1) := by decide +kernel
theorem dX7_sheet_49 : decode cX7_sheet 49 = .ok (.iload_n 2, 1) := by decide +kernel
theorem dX7_sheet_50 : decode cX7_sheet 50 = .ok (.iastore, 1) := by decide +kernel
theorem dX7_sheet_51 : decode cX7_sheet 51 = .ok (.aload_n 0, 1) := by decide +kernel
theorem dX7_sheet_52 : decode cX7_sheet 52 = .ok (.getfield 22, 3) := by decide +kernel
theorem dX7_sheet_55 : decode cX7_sheet 55 = .ok (.iload_n 1, 1) := by decide +kernel
theorem dX7_sheet_56 : decode cX7_sheet 56 = .ok (.iload_n 2, 1) := by decide +kernel
theorem dX7_sheet_57 : decode cX7_sheet 57 = .ok (.ifCond .ge 7, 3) := by decide +kernel
theorem dX7_sheet_60 : decode cX7_sheet 60 = .ok (.iconst 0, 1) := by decide +kernel
theorem dX7_sheet_61 : decode cX7_sheet 61 = .ok (.goto 4, 3) := by decide +kernel
theorem dX7_sheet_64 : decode cX7_sheet 64 = .ok (.iload_n 3, 1) := by decide +kernel
theorem dX7_sheet_65 : decode cX7_sheet 65 = .ok (.iastore, 1) := by decide +kernel
theorem dX7_sheet_66 : decode cX7_sheet 66 = .ok (.iconst 0, 1) := by decide +kernel
theorem dX7_sheet_67 : decode cX7_sheet 67 = .ok (.istore 4, 2) := by decide +kernel
theorem dX7_sheet_69 : decode cX7_sheet 69 = .ok (.iload 4, 2) := by decide +kernel
theorem dX7_sheet_71 : decode cX7_sheet 71 = .ok (.bipush 24, 2) := by decide +kernel
theorem dX7_sheet_73 : decode cX7_sheet 73 = .ok (.if_icmp .ge 22, 3) := by decide +kernel
theorem dX7_sheet_76 : decode cX7_sheet 76 = .ok (.aload_n 0, 1) := by decide +kernel
theorem dX7_sheet_77 : decode cX7_sheet 77 = .ok (.getfield 25, 3) := by decide +kernel
theorem dX7_sheet_80 : decode cX7_sheet 80 = .ok (.bipush 24, 2) := by decide +kernel
theorem dX7_sheet_82 : decode cX7_sheet 82 = .ok (.iload_n 1, 1) := by decide +kernel
theorem dX7_sheet_83 : decode cX7_sheet 83 = .ok (.imul, 1) := by decide +kernel
theorem dX7_sheet_84 : decode cX7_sheet 84 = .ok (.iload 4, 2) := by decide +kernel
theorem dX7_sheet_86 : decode cX7_sheet 86 = .ok (.iadd, 1) := by decide +kernel
theorem dX7_sheet_87 : decode cX7_sheet 87 = .ok (.iconst 0, 1) := by decide +kernel
theorem dX7_sheet_88 : decode cX7_sheet 88 = .ok (.iastore, 1) := by decide +kernel
theorem dX7_sheet_89 : decode cX7_sheet 89 = .ok (.iinc 4 1, 3) := by decide +kernel
theorem dX7_sheet_92 : decode cX7_sheet 92 = .ok (.goto (-23), 3) := by decide +kernel
theorem dX7_sheet_95 : decode cX7_sheet 95 = .ok (.aload_n 0, 1) := by decide +kernel
theorem dX7_sheet_96 : decode cX7_sheet 96 = .ok (.getfield 22, 3) := by decide +kernel
theorem dX7_sheet_99 : decode cX7_sheet 99 = .ok (.iload_n 1, 1) := by decide +kernel
theorem dX7_sheet_100 : decode cX7_sheet 100 = .ok (.iaload, 1) := by decide +kernel
theorem dX7_sheet_101 : decode cX7_sheet 101 = .ok (.ireturn, 1) := by decide +kernel
theorem dX7_mark_0 : decode cX7_mark 0 = .ok (.iload_n 1, 1) := by decide +kernel
theorem dX7_mark_1 : decode cX7_mark 1 = .ok (.invokestatic 302, 3) := by decide +kernel
theorem dX7_mark_4 : decode cX7_mark 4 = .ok (.ifCond .ne 6, 3) := by decide +kernel
theorem dX7_mark_7 : decode cX7_mark 7 = .ok (.ldc 100, 2) := by decide +kernel
theorem dX7_mark_9 : decode cX7_mark 9 = .ok (.ireturn, 1) := by decide +kernel
theorem dX7_mark_10 : decode cX7_mark 10 = .ok (.aload_n 0, 1) := by decide +kernel
theorem dX7_mark_11 : decode cX7_mark 11 = .ok (.getfield 19, 3) := by decide +kernel
theorem dX7_mark_14 : decode cX7_mark 14 = .ok (.iload_n 1, 1) := by decide +kernel
theorem dX7_mark_15 : decode cX7_mark 15 = .ok (.iaload, 1) := by decide +kernel
theorem dX7_mark_16 : decode cX7_mark 16 = .ok (.ifCond .ge 7, 3) := by decide +kernel
theorem dX7_mark_19 : decode cX7_mark 19 = .ok (.ldc_w 308, 3) := by decide +kernel
theorem dX7_mark_22 : decode cX7_mark 22 = .ok (.ireturn, 1) := by decide +kernel
theorem dX7_mark_23 : decode cX7_mark 23 = .ok (.iload_n 2, 1) := by decide +kernel
theorem dX7_mark_24 : decode cX7_mark 24 = .ok (.i2l, 1) := by decide +kernel
theorem dX7_mark_25 : decode cX7_mark 25 = .ok (.lconst 0, 1) := by decide +kernel
theorem dX7_mark_26 : decode cX7_mark 26 = .ok (.aload_n 0, 1) := by decide +kernel
theorem dX7_mark_27 : decode cX7_mark 27 = .ok (.getfield 22, 3) := by decide +kernel
theorem dX7_mark_30 : decode cX7_mark 30 = .ok (.iload_n 1, 1) := by decide +kernel
theorem dX7_mark_31 : decode cX7_mark 31 = .ok (.iaload, 1) := by decide +kernel
theorem dX7_mark_32 : decode cX7_mark 32 = .ok (.iconst 1, 1) := by decide +kernel
theorem dX7_mark_33 : decode cX7_mark 33 = .ok (.isub, 1) := by decide +kernel
theorem dX7_mark_34 : decode cX7_mark 34 = .ok (.i2l, 1) := by decide +kernel
theorem dX7_mark_35 : decode cX7_mark 35 = .ok (.invokestatic 71, 3) := by decide +kernel
theorem dX7_mark_38 : decode cX7_mark 38 = .ok (.ifCond .ne 7, 3) := by decide +kernel
theorem dX7_mark_41 : decode cX7_mark 41 = .ok (.ldc_w 309, 3) := by decide +kernel
theorem dX7_mark_44 : decode cX7_mark 44 = .ok (.ireturn, 1) := by decide +kernel
theorem dX7_mark_45 : decode cX7_mark 45 = .ok (.aload_n 0, 1) := by decide +kernel
theorem dX7_mark_46 : decode cX7_mark 46 = .ok (.getfield 19, 3) := by decide +kernel
theorem dX7_mark_49 : decode cX7_mark 49 = .ok (.iload_n 1, 1) := by decide +kernel
theorem dX7_mark_50 : decode cX7_mark 50 = .ok (.iaload, 1) := by decide +kernel
theorem dX7_mark_51 : decode cX7_mark 51 = .ok (.ifCond .ne 12, 3) := by decide +kernel
theorem dX7_mark_54 : decode cX7_mark 54 = .ok (.iload_n 3, 1) := by decide +kernel
theorem dX7_mark_55 : decode cX7_mark 55 = .ok (.ldc 70, 2) := by decide +kernel
theorem dX7_mark_57 : decode cX7_mark 57 = .ok (.if_icmp .ne 6, 3) := by decide +kernel
theorem dX7_mark_60 : decode cX7_mark 60 = .ok (.ldc 148, 2) := by decide +kernel
theorem dX7_mark_62 : decode cX7_mark 62 = .ok (.ireturn, 1) := by decide +kernel
theorem dX7_mark_63 : decode cX7_mark 63 = .ok (.aload_n 0, 1) := by decide +kernel
theorem dX7_mark_64 : decode cX7_mark 64 = .ok (.getfield 19, 3) := by decide +kernel
theorem dX7_mark_67 : decode cX7_mark 67 = .ok (.iload_n 1, 1) := by decide +kernel
theorem dX7_mark_68 : decode cX7_mark 68 = .ok (.iaload, 1) := by decide +kernel
theorem dX7_mark_69 : decode cX7_mark 69 = .ok (.iconst 1, 1) := by decide +kernel
theorem dX7_mark_70 : decode cX7_mark 70 = .ok (.if_icmp .ne 26, 3) := by decide +kernel
theorem dX7_mark_73 : decode cX7_mark 73 = .ok (.iload_n 3, 1) := by decide +kernel
theorem dX7_mark_74 : decode cX7_mark 74 = .ok (.ldc 70, 2) := by decide +kernel
theorem dX7_mark_76 : decode cX7_mark 76 = .ok (.if_icmp .eq 20, 3) := by decide +kernel
theorem dX7_mark_79 : decode cX7_mark 79 = .ok (.iload_n 3, 1) := by decide +kernel
theorem dX7_mark_80 : decode cX7_mark 80 = .ok (.i2l, 1) := by decide +kernel
theorem dX7_mark_81 : decode cX7_mark 81 = .ok (.ldc2_w 310, 3) := by decide +kernel
theorem dX7_mark_84 : decode cX7_mark 84 = .ok (.ldc2_w 312, 3) := by decide +kernel
theorem dX7_mark_87 : decode cX7_mark 87 = .ok (.invokestatic 71, 3) := by decide +kernel
theorem dX7_mark_90 : decode cX7_mark 90 = .ok (.ifCond .ne 6, 3) := by decide +kernel
theorem dX7_mark_93 : decode cX7_mark 93 = .ok (.ldc 100, 2) := by decide +kernel
theorem dX7_mark_95 : decode cX7_mark 95 = .ok (.ireturn, 1) := by decide +kernel
theorem dX7_mark_96 : decode cX7_mark 96 = .ok (.aload_n 0, 1) := by decide +kernel
theorem dX7_mark_97 : decode cX7_mark 97 = .ok (.getfield 25, 3) := by decide +kernel
theorem dX7_mark_100 : decode cX7_mark 100 = .ok (.bipush 24, 2) := by decide +kernel
theorem dX7_mark_102 : decode cX7_mark 102 = .ok (.iload_n 1, 1) := by decide +kernel
theorem dX7_mark_103 : decode cX7_mark 103 = .ok (.imul, 1) := by decide +kernel
theorem dX7_mark_104 : decode cX7_mark 104 = .ok (.iload_n 2, 1) := by decide +kernel
theorem dX7_mark_105 : decode cX7_mark 105 = .ok (.iadd, 1) := by decide +kernel
theorem dX7_mark_106 : decode cX7_mark 106 = .ok (.aload_n 0, 1) := by decide +kernel
theorem dX7_mark_107 : decode cX7_mark 107 = .ok (.getfield 19, 3) := by decide +kernel
theorem dX7_mark_110 : decode cX7_mark 110 = .ok (.iload_n 1, 1) := by decide +kernel
theorem dX7_mark_111 : decode cX7_mark 111 = .ok (.iaload, 1) := by decide +kernel
theorem dX7_mark_112 : decode cX7_mark 112 = .ok (.ifCond .ne 13, 3) := by decide +kernel
theorem dX7_mark_115 : decode cX7_mark 115 = .ok (.iload_n 3, 1) := by decide +kernel
theorem dX7_mark_116 : decode cX7_mark 116 = .ok (.bipush 16, 2) := by decide +kernel
theorem dX7_mark_118 : decode cX7_mark 118 = .ok (.ishl, 1) := by decide +kernel
theorem dX7_mark_119 : decode cX7_mark 119 = .ok (.bipush 16, 2) := by decide +kernel
theorem dX7_mark_121 : decode cX7_mark 121 = .ok (.ishr, 1) := by decide +kernel
theorem dX7_mark_122 : decode cX7_mark 122 = .ok (.goto 4, 3) := by decide +kernel
theorem dX7_mark_125 : decode cX7_mark 125 = .ok (.iload_n 3, 1) := by decide +kernel
theorem dX7_mark_126 : decode cX7_mark 126 = .ok (.iastore, 1) := by decide +kernel
theorem dX7_mark_127 : decode cX7_mark 127 = .ok (.iconst 1, 1) := by decide +kernel
theorem dX7_mark_128 : decode cX7_mark 128 = .ok (.ireturn, 1) := by decide +kernel
theorem dX7_pour_0 : decode cX7_pour 0 = .ok (.iload_n 1, 1) := by decide +kernel
theorem dX7_pour_1 : decode cX7_pour 1 = .ok (.invokestatic 302, 3) := by decide +kernel
theorem dX7_pour_4 : decode cX7_pour 4 = .ok (.ifCond .ne 6, 3) := by decide +kernel
theorem dX7_pour_7 : decode cX7_pour 7 = .ok (.ldc 100, 2) := by decide +kernel
theorem dX7_pour_9 : decode cX7_pour 9 = .ok (.ireturn, 1) := by decide +kernel
theorem dX7_pour_10 : decode cX7_pour 10 = .ok (.aload_n 0, 1) := by decide +kernel
theorem dX7_pour_11 : decode cX7_pour 11 = .ok (.getfield 19, 3) := by decide +kernel
theorem dX7_pour_14 : decode cX7_pour 14 = .ok (.iload_n 1, 1) := by decide +kernel
theorem dX7_pour_15 : decode cX7_pour 15 = .ok (.iaload, 1) := by decide +kernel
theorem dX7_pour_16 : decode cX7_pour 16 = .ok (.ifCond .ge 7, 3) := by decide +kernel
theorem dX7_pour_19 : decode cX7_pour 19 = .ok (.ldc_w 308, 3) := by decide +kernel
theorem dX7_pour_22 : decode cX7_pour 22 = .ok (.ireturn, 1) := by decide +kernel
theorem dX7_pour_23 : decode cX7_pour 23 = .ok (.iconst 0, 1) := by decide +kernel
theorem dX7_pour_24 : decode cX7_pour 24 = .ok (.istore_n 2, 1) := by decide +kernel
theorem dX7_pour_25 : decode cX7_pour 25 = .ok (.iconst 0, 1) := by decide +kernel
theorem dX7_pour_26 : decode cX7_pour 26 = .ok (.istore_n 3, 1) := by decide +kernel
theorem dX7_pour_27 : decode cX7_pour 27 = .ok (.iload_n 3, 1) := by decide +kernel
theorem dX7_pour_28 : decode cX7_pour 28 = .ok (.aload_n 0, 1) := by decide +kernel
theorem dX7_pour_29 : decode cX7_pour 29 = .ok (.getfield 22, 3) := by decide +kernel
theorem dX7_pour_32 : decode cX7_pour 32 = .ok (.iload_n 1, 1) := by decide +kernel
theorem dX7_pour_33 : decode cX7_pour 33 = .ok (.iaload, 1) := by decide +kernel
theorem dX7_pour_34 : decode cX7_pour 34 = .ok (.if_icmp .ge 94, 3) := by decide +kernel
theorem dX7_pour_37 : decode cX7_pour 37 = .ok (.iload_n 3, 1) := by decide +kernel
theorem dX7_pour_38 : decode cX7_pour 38 = .ok (.aload_n 0, 1) := by decide +kernel
theorem dX7_pour_39 : decode cX7_pour 39 = .ok (.getfield 7, 3) := by decide +kernel
theorem dX7_pour_42 : decode cX7_pour 42 = .ok (.iconst 0, 1) := by decide +kernel
theorem dX7_pour_43 : decode cX7_pour 43 = .ok (.iaload, 1) := by decide +kernel
theorem dX7_pour_44 : decode cX7_pour 44 = .ok (.if_icmp .ge 84, 3) := by decide +kernel
theorem dX7_pour_47 : decode cX7_pour 47 = .ok (.aload_n 0, 1) := by decide +kernel
theorem dX7_pour_48 : decode cX7_pour 48 = .ok (.getfield 25, 3) := by decide +kernel
theorem dX7_pour_51 : decode cX7_pour 51 = .ok (.bipush 24, 2) := by decide +kernel
theorem dX7_pour_53 : decode cX7_pour 53 = .ok (.iload_n 1, 1) := by decide +kernel
theorem dX7_pour_54 : decode cX7_pour 54 = .ok (.imul, 1) := by decide +kernel
theorem dX7_pour_55 : decode cX7_pour 55 = .ok (.iload_n 3, 1) := by decide +kernel
theorem dX7_pour_56 : decode cX7_pour 56 = .ok (.iadd, 1) := by decide +kernel
theorem dX7_pour_57 : decode cX7_pour 57 = .ok (.iaload, 1) := by decide +kernel
theorem dX7_pour_58 : decode cX7_pour 58 = .ok (.istore 4, 2) := by decide +kernel
theorem dX7_pour_60 : decode cX7_pour 60 = .ok (.iload 4, 2) := by decide +kernel
theorem dX7_pour_62 : decode cX7_pour 62 = .ok (.ldc 70, 2) := by decide +kernel
theorem dX7_pour_64 : decode cX7_pour 64 = .ok (.if_icmp .ne 20, 3) := by decide +kernel
theorem dX7_pour_67 : decode cX7_pour 67 = .ok (.aload_n 0, 1) := by decide +kernel
theorem dX7_pour_68 : decode cX7_pour 68 = .ok (.getfield 7, 3) := by decide +kernel
theorem dX7_pour_71 : decode cX7_pour 71 = .ok (.bipush 6, 2) := by decide +kernel
theorem dX7_pour_73 : decode cX7_pour 73 = .ok (.bipush 7, 2) := by decide +kernel
theorem dX7_pour_75 : decode cX7_pour 75 = .ok (.iload_n 3, 1) := by decide +kernel
theorem dX7_pour_76 : decode cX7_pour 76 = .ok (.imul, 1) := by decide +kernel
theorem dX7_pour_77 : decode cX7_pour 77 = .ok (.iadd, 1) := by decide +kernel
theorem dX7_pour_78 : decode cX7_pour 78 = .ok (.iconst 3, 1) := by decide +kernel
theorem dX7_pour_79 : decode cX7_pour 79 = .ok (.iadd, 1) := by decide +kernel
theorem dX7_pour_80 : decode cX7_pour 80 = .ok (.iaload, 1) := by decide +kernel
theorem dX7_pour_81 : decode cX7_pour 81 = .ok (.goto 11, 3) := by decide +kernel
theorem dX7_pour_84 : decode cX7_pour 84 = .ok (.iload 4, 2) := by decide +kernel
theorem dX7_pour_86 : decode cX7_pour 86 = .ok (.iconst 0, 1) := by decide +kernel
theorem dX7_pour_87 : decode cX7_pour 87 = .ok (.bipush 99, 2) := by decide +kernel
theorem dX7_pour_89 : decode cX7_pour 89 = .ok (.invokestatic 116, 3) := by decide +kernel
theorem dX7_pour_92 : decode cX7_pour 92 = .ok (.istore 5, 2) := by decide +kernel
theorem dX7_pour_94 : decode cX7_pour 94 = .ok (.iload_n 2, 1) := by decide +kernel
theorem dX7_pour_95 : decode cX7_pour 95 = .ok (.iload 5, 2) := by decide +kernel
theorem dX7_pour_97 : decode cX7_pour 97 = .ok (.aload_n 0, 1) := by decide +kernel
theorem dX7_pour_98 : decode cX7_pour 98 = .ok (.bipush 6, 2) := by decide +kernel
theorem dX7_pour_100 : decode cX7_pour 100 = .ok (.bipush 7, 2) := by decide +kernel
theorem dX7_pour_102 : decode cX7_pour 102 = .ok (.iload_n 3, 1) := by decide +kernel
theorem dX7_pour_103 : decode cX7_pour 103 = .ok (.imul, 1) := by decide +kernel
theorem dX7_pour_104 : decode cX7_pour 104 = .ok (.iadd, 1) := by decide +kernel
theorem dX7_pour_105 : decode cX7_pour 105 = .ok (.iconst 3, 1) := by decide +kernel
theorem dX7_pour_106 : decode cX7_pour 106 = .ok (.iadd, 1) := by decide +kernel
theorem dX7_pour_107 : decode cX7_pour 107 = .ok (.iload 5, 2) := by decide +kernel
theorem dX7_pour_109 : decode cX7_pour 109 = .ok (.invokevirtual 149, 3) := by decide +kernel
theorem dX7_pour_112 : decode cX7_pour 112 = .ok (.if_icmp .ne 7, 3) := by decide +kernel
theorem dX7_pour_115 : decode cX7_pour 115 = .ok (.iconst 0, 1) := by decide +kernel
theorem dX7_pour_116 : decode cX7_pour 116 = .ok (.goto 4, 3) := by decide +kernel
theorem dX7_pour_119 : decode cX7_pour 119 = .ok (.iconst 1, 1) := by decide +kernel
theorem dX7_pour_120 : decode cX7_pour 120 = .ok (.iadd, 1) := by decide +kernel
theorem dX7_pour_121 : decode cX7_pour 121 = .ok (.istore_n 2, 1) := by decide +kernel
theorem dX7_pour_122 : decode cX7_pour 122 = .ok (.iinc 3 1, 3) := by decide +kernel
theorem dX7_pour_125 : decode cX7_pour 125 = .ok (.goto (-98), 3) := by decide +kernel
theorem dX7_pour_128 : decode cX7_pour 128 = .ok (.iload_n 2, 1) := by decide +kernel
theorem dX7_pour_129 : decode cX7_pour 129 = .ok (.ireturn, 1) := by decide +kernel
theorem dX7_reads_0 : decode cX7_reads 0 = .ok (.iload_n 1, 1) := by decide +kernel
theorem dX7_reads_1 : decode cX7_reads 1 = .ok (.invokestatic 302, 3) := by decide +kernel
theorem dX7_reads_4 : decode cX7_reads 4 = .ok (.ifCond .ne 6, 3) := by decide +kernel
theorem dX7_reads_7 : decode cX7_reads 7 = .ok (.ldc 100, 2) := by decide +kernel
theorem dX7_reads_9 : decode cX7_reads 9 = .ok (.ireturn, 1) := by decide +kernel
theorem dX7_reads_10 : decode cX7_reads 10 = .ok (.aload_n 0, 1) := by decide +kernel
theorem dX7_reads_11 : decode cX7_reads 11 = .ok (.getfield 19, 3) := by decide +kernel
theorem dX7_reads_14 : decode cX7_reads 14 = .ok (.iload_n 1, 1) := by decide +kernel
theorem dX7_reads_15 : decode cX7_reads 15 = .ok (.iaload, 1) := by decide +kernel
theorem dX7_reads_16 : decode cX7_reads 16 = .ok (.ifCond .ge 7, 3) := by decide +kernel
theorem dX7_reads_19 : decode cX7_reads 19 = .ok (.ldc_w 308, 3) := by decide +kernel
theorem dX7_reads_22 : decode cX7_reads 22 = .ok (.ireturn, 1) := by decide +kernel
theorem dX7_reads_23 : decode cX7_reads 23 = .ok (.iconst 0, 1) := by decide +kernel
theorem dX7_reads_24 : decode cX7_reads 24 = .ok (.istore_n 2, 1) := by decide +kernel
theorem dX7_reads_25 : decode cX7_reads 25 = .ok (.iload_n 2, 1) := by decide +kernel
theorem dX7_reads_26 : decode cX7_reads 26 = .ok (.aload_n 0, 1) := by decide +kernel
theorem dX7_reads_27 : decode cX7_reads 27 = .ok (.getfield 22, 3) := by decide +kernel
theorem dX7_reads_30 : decode cX7_reads 30 = .ok (.iload_n 1, 1) := by decide +kernel
theorem dX7_reads_31 : decode cX7_reads 31 = .ok (.iaload, 1) := by decide +kernel
theorem dX7_reads_32 : decode cX7_reads 32 = .ok (.if_icmp .ge 49, 3) := by decide +kernel
theorem dX7_reads_35 : decode cX7_reads 35 = .ok (.aload_n 0, 1) := by decide +kernel
theorem dX7_reads_36 : decode cX7_reads 36 = .ok (.getfield 25, 3) := by decide +kernel
theorem dX7_reads_39 : decode cX7_reads 39 = .ok (.bipush 24, 2) := by decide +kernel
theorem dX7_reads_41 : decode cX7_reads 41 = .ok (.iload_n 1, 1) := by decide +kernel
theorem dX7_reads_42 : decode cX7_reads 42 = .ok (.imul, 1) := by decide +kernel
theorem dX7_reads_43 : decode cX7_reads 43 = .ok (.iload_n 2, 1) := by decide +kernel
theorem dX7_reads_44 : decode cX7_reads 44 = .ok (.iadd, 1) := by decide +kernel
theorem dX7_reads_45 : decode cX7_reads 45 = .ok (.iaload, 1) := by decide +kernel
theorem dX7_reads_46 : decode cX7_reads 46 = .ok (.istore_n 3, 1) := by decide +kernel
theorem dX7_reads_47 : decode cX7_reads 47 = .ok (.iload_n 3, 1) := by decide +kernel
theorem dX7_reads_48 : decode cX7_reads 48 = .ok (.ldc 70, 2) := by decide +kernel
theorem dX7_reads_50 : decode cX7_reads 50 = .ok (.if_icmp .eq 25, 3) := by decide +kernel
theorem dX7_reads_53 : decode cX7_reads 53 = .ok (.iload_n 2, 1) := by decide +kernel
theorem dX7_reads_54 : decode cX7_reads 54 = .ok (.aload_n 0, 1) := by decide +kernel
theorem dX7_reads_55 : decode cX7_reads 55 = .ok (.getfield 7, 3) := by decide +kernel
theorem dX7_reads_58 : decode cX7_reads 58 = .ok (.iconst 0, 1) := by decide +kernel
theorem dX7_reads_59 : decode cX7_reads 59 = .ok (.iaload, 1) := by decide +kernel
theorem dX7_reads_60 : decode cX7_reads 60 = .ok (.if_icmp .ge 13, 3) := by decide +kernel
theorem dX7_reads_63 : decode cX7_reads 63 = .ok (.iload_n 3, 1) := by decide +kernel
theorem dX7_reads_64 : decode cX7_reads 64 = .ok (.aload_n 0, 1) := by decide +kernel
theorem dX7_reads_65 : decode cX7_reads 65 = .ok (.iload_n 2, 1) := by decide +kernel
theorem dX7_reads_66 : decode cX7_reads 66 = .ok (.iconst 2, 1) := by decide +kernel
theorem dX7_reads_67 : decode cX7_reads 67 = .ok (.invokevirtual 75, 3) := by decide +kernel
theorem dX7_reads_70 : decode cX7_reads 70 = .ok (.if_icmp .eq 5, 3) := by decide +kernel
theorem dX7_reads_73 : decode cX7_reads 73 = .ok (.iload_n 2, 1) := by decide +kernel
theorem dX7_reads_74 : decode cX7_reads 74 = .ok (.ireturn, 1) := by decide +kernel
theorem dX7_reads_75 : decode cX7_reads 75 = .ok (.iinc 2 1, 3) := by decide +kernel
theorem dX7_reads_78 : decode cX7_reads 78 = .ok (.goto (-53), 3) := by decide +kernel
theorem dX7_reads_81 : decode cX7_reads 81 = .ok (.ldc 70, 2) := by decide +kernel
theorem dX7_reads_83 : decode cX7_reads 83 = .ok (.ireturn, 1) := by decide +kernel
theorem dX7_began_0 : decode cX7_began 0 = .ok (.iload_n 1, 1) := by decide +kernel
theorem dX7_began_1 : decode cX7_began 1 = .ok (.invokestatic 302, 3) := by decide +kernel
theorem dX7_began_4 : decode cX7_began 4 = .ok (.ifCond .eq 25, 3) := by decide +kernel
theorem dX7_began_7 : decode cX7_began 7 = .ok (.iload_n 2, 1) := by decide +kernel
theorem dX7_began_8 : decode cX7_began 8 = .ok (.i2l, 1) := by decide +kernel
theorem dX7_began_9 : decode cX7_began 9 = .ok (.lconst 0, 1) := by decide +kernel
theorem dX7_began_10 : decode cX7_began 10 = .ok (.ldc2_w 193, 3) := by decide +kernel
theorem dX7_began_13 : decode cX7_began 13 = .ok (.invokestatic 71, 3) := by decide +kernel
theorem dX7_began_16 : decode cX7_began 16 = .ok (.ifCond .eq 13, 3) := by decide +kernel
theorem dX7_began_19 : decode cX7_began 19 = .ok (.iload_n 3, 1) := by decide +kernel
theorem dX7_began_20 : decode cX7_began 20 = .ok (.i2l, 1) := by decide +kernel
theorem dX7_began_21 : decode cX7_began 21 = .ok (.lconst 0, 1) := by decide +kernel
theorem dX7_began_22 : decode cX7_began 22 = .ok (.lconst 1, 1) := by decide +kernel
theorem dX7_began_23 : decode cX7_began 23 = .ok (.invokestatic 71, 3) := by decide +kernel
theorem dX7_began_26 : decode cX7_began 26 = .ok (.ifCond .ne 6, 3) := by decide +kernel
theorem dX7_began_29 : decode cX7_began 29 = .ok (.ldc 100, 2) := by decide +kernel
theorem dX7_began_31 : decode cX7_began 31 = .ok (.ireturn, 1) := by decide +kernel
theorem dX7_began_32 : decode cX7_began 32 = .ok (.aload_n 0, 1) := by decide +kernel
theorem dX7_began_33 : decode cX7_began 33 = .ok (.getfield 19, 3) := by decide +kernel
theorem dX7_began_36 : decode cX7_began 36 = .ok (.iload_n 1, 1) := by decide +kernel
theorem dX7_began_37 : decode cX7_began 37 = .ok (.iaload, 1) := by decide +kernel
theorem dX7_began_38 : decode cX7_began 38 = .ok (.ifCond .ge 7, 3) := by decide +kernel
theorem dX7_began_41 : decode cX7_began 41 = .ok (.ldc_w 308, 3) := by decide +kernel
theorem dX7_began_44 : decode cX7_began 44 = .ok (.ireturn, 1) := by decide +kernel
theorem dX7_began_45 : decode cX7_began 45 = .ok (.aload_n 0, 1) := by decide +kernel
theorem dX7_began_46 : decode cX7_began 46 = .ok (.invokevirtual 181, 3) := by decide +kernel
theorem dX7_began_49 : decode cX7_began 49 = .ok (.iconst (-1), 1) := by decide +kernel
theorem dX7_began_50 : decode cX7_began 50 = .ok (.istore 4, 2) := by decide +kernel
theorem dX7_began_52 : decode cX7_began 52 = .ok (.iconst 0, 1) := by decide +kernel
theorem dX7_began_53 : decode cX7_began 53 = .ok (.istore 5, 2) := by decide +kernel
theorem dX7_began_55 : decode cX7_began 55 = .ok (.iconst 0, 1) := by decide +kernel
theorem dX7_began_56 : decode cX7_began 56 = .ok (.istore 6, 2) := by decide +kernel
theorem dX7_began_58 : decode cX7_began 58 = .ok (.iload 6, 2) := by decide +kernel
theorem dX7_began_60 : decode cX7_began 60 = .ok (.aload_n 0, 1) := by decide +kernel
theorem dX7_began_61 : decode cX7_began 61 = .ok (.getfield 7, 3) := by decide +kernel
theorem dX7_began_64 : decode cX7_began 64 = .ok (.iconst 0, 1) := by decide +kernel
theorem dX7_began_65 : decode cX7_began 65 = .ok (.iaload, 1) := by decide +kernel
theorem dX7_began_66 : decode cX7_began 66 = .ok (.if_icmp .ge 126, 3) := by decide +kernel
theorem dX7_began_69 : decode cX7_began 69 = .ok (.aload_n 0, 1) := by decide +kernel
theorem dX7_began_70 : decode cX7_began 70 = .ok (.iload 6, 2) := by decide +kernel
theorem dX7_began_72 : decode cX7_began 72 = .ok (.iconst 3, 1) := by decide +kernel
theorem dX7_began_73 : decode cX7_began 73 = .ok (.iconst 0, 1) := by decide +kernel
theorem dX7_began_74 : decode cX7_began 74 = .ok (.invokevirtual 80, 3) := by decide +kernel
theorem dX7_began_77 : decode cX7_began 77 = .ok (.aload_n 0, 1) := by decide +kernel
theorem dX7_began_78 : decode cX7_began 78 = .ok (.iload_n 2, 1) := by decide +kernel
theorem dX7_began_79 : decode cX7_began 79 = .ok (.invokevirtual 184, 3) := by decide +kernel
theorem dX7_began_82 : decode cX7_began 82 = .ok (.iconst 0, 1) := by decide +kernel
theorem dX7_began_83 : decode cX7_began 83 = .ok (.istore 7, 2) := by decide +kernel
theorem dX7_began_85 : decode cX7_began 85 = .ok (.iconst 0, 1) := by decide +kernel
theorem dX7_began_86 : decode cX7_began 86 = .ok (.istore 8, 2) := by decide +kernel
theorem dX7_began_88 : decode cX7_began 88 = .ok (.iload 8, 2) := by decide +kernel
theorem dX7_began_90 : decode cX7_began 90 = .ok (.aload_n 0, 1) := by decide +kernel
theorem dX7_began_91 : decode cX7_began 91 = .ok (.getfield 22, 3) := by decide +kernel
theorem dX7_began_94 : decode cX7_began 94 = .ok (.iload_n 1, 1) := by decide +kernel
theorem dX7_began_95 : decode cX7_began 95 = .ok (.iaload, 1) := by decide +kernel
theorem dX7_began_96 : decode cX7_began 96 = .ok (.if_icmp .ge 66, 3) := by decide +kernel
theorem dX7_began_99 : decode cX7_began 99 = .ok (.aload_n 0, 1) := by decide +kernel
theorem dX7_began_100 : decode cX7_began 100 = .ok (.getfield 25, 3) := by decide +kernel
theorem dX7_began_103 : decode cX7_began 103 = .ok (.bipush 24, 2) := by decide +kernel
theorem dX7_began_105 : decode cX7_began 105 = .ok (.iload_n 1, 1) := by decide +kernel
theorem dX7_began_106 : decode cX7_began 106 = .ok (.imul, 1) := by decide +kernel
theorem dX7_began_107 : decode cX7_began 107 = .ok (.iload 8, 2) := by decide +kernel
theorem dX7_began_109 : decode cX7_began 109 = .ok (.iadd, 1) := by decide +kernel
theorem dX7_began_110 : decode cX7_began 110 = .ok (.iaload, 1) := by decide +kernel
theorem dX7_began_111 : decode cX7_began 111 = .ok (.istore 9, 2) := by decide +kernel
theorem dX7_began_113 : decode cX7_began 113 = .ok (.iload 7, 2) := by decide +kernel
theorem dX7_began_115 : decode cX7_began 115 = .ok (.iload 9, 2) := by decide +kernel
theorem dX7_began_117 : decode cX7_began 117 = .ok (.ldc 70, 2) := by decide +kernel
theorem dX7_began_119 : decode cX7_began 119 = .ok (.if_icmp .ne 7, 3) := by decide +kernel
theorem dX7_began_122 : decode cX7_began 122 = .ok (.iconst 0, 1) := by decide +kernel
theorem dX7_began_123 : decode cX7_began 123 = .ok (.goto 30, 3) := by decide +kernel
theorem dX7_began_126 : decode cX7_began 126 = .ok (.iload 9, 2) := by decide +kernel
theorem dX7_began_128 : decode cX7_began 128 = .ok (.iload 8, 2) := by decide +kernel
theorem dX7_began_130 : decode cX7_began 130 = .ok (.aload_n 0, 1) := by decide +kernel
theorem dX7_began_131 : decode cX7_began 131 = .ok (.getfield 7, 3) := by decide +kernel
theorem dX7_began_134 : decode cX7_began 134 = .ok (.iconst 0, 1) := by decide +kernel
theorem dX7_began_135 : decode cX7_began 135 = .ok (.iaload, 1) := by decide +kernel
theorem dX7_began_136 : decode cX7_began 136 = .ok (.if_icmp .ge 13, 3) := by decide +kernel
theorem dX7_began_139 : decode cX7_began 139 = .ok (.aload_n 0, 1) := by decide +kernel
theorem dX7_began_140 : decode cX7_began 140 = .ok (.iload 8, 2) := by decide +kernel
theorem dX7_began_142 : decode cX7_began 142 = .ok (.iconst 4, 1) := by decide +kernel
theorem dX7_began_143 : decode cX7_began 143 = .ok (.invokevirtual 75, 3) := by decide +kernel
theorem dX7_began_146 : decode cX7_began 146 = .ok (.goto 4, 3) := by decide +kernel
theorem dX7_began_149 : decode cX7_began 149 = .ok (.iconst 0, 1) := by decide +kernel
theorem dX7_began_150 : decode cX7_began 150 = .ok (.invokestatic 106, 3) := by decide +kernel
theorem dX7_began_153 : decode cX7_began 153 = .ok (.iadd, 1) := by decide +kernel
theorem dX7_began_154 : decode cX7_began 154 = .ok (.istore 7, 2) := by decide +kernel
theorem dX7_began_156 : decode cX7_began 156 = .ok (.iinc 8 1, 3) := by decide +kernel
theorem dX7_began_159 : decode cX7_began 159 = .ok (.goto (-71), 3) := by decide +kernel
theorem dX7_began_162 : decode cX7_began 162 = .ok (.aload_n 0, 1) := by decide +kernel
theorem dX7_began_163 : decode cX7_began 163 = .ok (.invokevirtual 187, 3) := by decide +kernel
theorem dX7_began_166 : decode cX7_began 166 = .ok (.iload 4, 2) := by decide +kernel
theorem dX7_began_168 : decode cX7_began 168 = .ok (.ifCond .lt 10, 3) := by decide +kernel
theorem dX7_began_171 : decode cX7_began 171 = .ok (.iload 7, 2) := by decide +kernel
theorem dX7_began_173 : decode cX7_began 173 = .ok (.iload 5, 2) := by decide +kernel
theorem dX7_began_175 : decode cX7_began 175 = .ok (.if_icmp .ge 11, 3) := by decide +kernel
theorem dX7_began_178 : decode cX7_began 178 = .ok (.iload 6, 2) := by decide +kernel
theorem dX7_began_180 : decode cX7_began 180 = .ok (.istore 4, 2) := by decide +kernel
theorem dX7_began_182 : decode cX7_began 182 = .ok (.iload 7, 2) := by decide +kernel
theorem dX7_began_184 : decode cX7_began 184 = .ok (.istore 5, 2) := by decide +kernel
theorem dX7_began_186 : decode cX7_began 186 = .ok (.iinc 6 1, 3) := by decide +kernel
theorem dX7_began_189 : decode cX7_began 189 = .ok (.goto (-131), 3) := by decide +kernel
theorem dX7_began_192 : decode cX7_began 192 = .ok (.iload 4, 2) := by decide +kernel
theorem dX7_began_194 : decode cX7_began 194 = .ok (.ifCond .ge 8, 3) := by decide +kernel
theorem dX7_began_197 : decode cX7_began 197 = .ok (.ldc 70, 2) := by decide +kernel
theorem dX7_began_199 : decode cX7_began 199 = .ok (.goto 14, 3) := by decide +kernel
theorem dX7_began_202 : decode cX7_began 202 = .ok (.iload_n 3, 1) := by decide +kernel
theorem dX7_began_203 : decode cX7_began 203 = .ok (.ifCond .ne 8, 3) := by decide +kernel
theorem dX7_began_206 : decode cX7_began 206 = .ok (.iload 4, 2) := by decide +kernel
theorem dX7_began_208 : decode cX7_began 208 = .ok (.goto 5, 3) := by decide +kernel
theorem dX7_began_211 : decode cX7_began 211 = .ok (.iload 5, 2) := by decide +kernel
theorem dX7_began_213 : decode cX7_began 213 = .ok (.ireturn, 1) := by decide +kernel
theorem dX7_copy_0 : decode cX7_copy 0 = .ok (.iload_n 1, 1) := by decide +kernel
theorem dX7_copy_1 : decode cX7_copy 1 = .ok (.invokestatic 302, 3) := by decide +kernel
theorem dX7_copy_4 : decode cX7_copy 4 = .ok (.ifCond .eq 10, 3) := by decide +kernel
theorem dX7_copy_7 : decode cX7_copy 7 = .ok (.iload_n 3, 1) := by decide +kernel
theorem dX7_copy_8 : decode cX7_copy 8 = .ok (.invokestatic 302, 3) := by decide +kernel
theorem dX7_copy_11 : decode cX7_copy 11 = .ok (.ifCond .ne 6, 3) := by decide +kernel
theorem dX7_copy_14 : decode cX7_copy 14 = .ok (.ldc 100, 2) := by decide +kernel
theorem dX7_copy_16 : decode cX7_copy 16 = .ok (.ireturn, 1) := by decide +kernel
theorem dX7_copy_17 : decode cX7_copy 17 = .ok (.aload_n 0, 1) := by decide +kernel
theorem dX7_copy_18 : decode cX7_copy 18 = .ok (.getfield 19, 3) := by decide +kernel
theorem dX7_copy_21 : decode cX7_copy 21 = .ok (.iload_n 1, 1) := by decide +kernel
theorem dX7_copy_22 : decode cX7_copy 22 = .ok (.iaload, 1) := by decide +kernel
theorem dX7_copy_23 : decode cX7_copy 23 = .ok (.ifCond .lt 12, 3) := by decide +kernel
theorem dX7_copy_26 : decode cX7_copy 26 = .ok (.aload_n 0, 1) := by decide +kernel
theorem dX7_copy_27 : decode cX7_copy 27 = .ok (.getfield 19, 3) := by decide +kernel
theorem dX7_copy_30 : decode cX7_copy 30 = .ok (.iload_n 3, 1) := by decide +kernel
theorem dX7_copy_31 : decode cX7_copy 31 = .ok (.iaload, 1) := by decide +kernel
theorem dX7_copy_32 : decode cX7_copy 32 = .ok (.ifCond .ge 7, 3) := by decide +kernel
theorem dX7_copy_35 : decode cX7_copy 35 = .ok (.ldc_w 308, 3) := by decide +kernel
theorem dX7_copy_38 : decode cX7_copy 38 = .ok (.ireturn, 1) := by decide +kernel
theorem dX7_copy_39 : decode cX7_copy 39 = .ok (.aload_n 0, 1) := by decide +kernel
theorem dX7_copy_40 : decode cX7_copy 40 = .ok (.getfield 19, 3) := by decide +kernel
theorem dX7_copy_43 : decode cX7_copy 43 = .ok (.iload_n 1, 1) := by decide +kernel
theorem dX7_copy_44 : decode cX7_copy 44 = .ok (.iaload, 1) := by decide +kernel
theorem dX7_copy_45 : decode cX7_copy 45 = .ok (.aload_n 0, 1) := by decide +kernel
theorem dX7_copy_46 : decode cX7_copy 46 = .ok (.getfield 19, 3) := by decide +kernel
theorem dX7_copy_49 : decode cX7_copy 49 = .ok (.iload_n 3, 1) := by decide +kernel
theorem dX7_copy_50 : decode cX7_copy 50 = .ok (.iaload, 1) := by decide +kernel
theorem dX7_copy_51 : decode cX7_copy 51 = .ok (.if_icmp .eq 6, 3) := by decide +kernel
theorem dX7_copy_54 : decode cX7_copy 54 = .ok (.ldc 148, 2) := by decide +kernel
theorem dX7_copy_56 : decode cX7_copy 56 = .ok (.ireturn, 1) := by decide +kernel
theorem dX7_copy_57 : decode cX7_copy 57 = .ok (.iload_n 2, 1) := by decide +kernel
theorem dX7_copy_58 : decode cX7_copy 58 = .ok (.ifCond .lt 48, 3) := by decide +kernel
theorem dX7_copy_61 : decode cX7_copy 61 = .ok (.iload 4, 2) := by decide +kernel
theorem dX7_copy_63 : decode cX7_copy 63 = .ok (.ifCond .lt 43, 3) := by decide +kernel
theorem dX7_copy_66 : decode cX7_copy 66 = .ok (.iload 5, 2) := by decide +kernel
theorem dX7_copy_68 : decode cX7_copy 68 = .ok (.ifCond .lt 38, 3) := by decide +kernel
theorem dX7_copy_71 : decode cX7_copy 71 = .ok (.iload_n 2, 1) := by decide +kernel
theorem dX7_copy_72 : decode cX7_copy 72 = .ok (.i2l, 1) := by decide +kernel
theorem dX7_copy_73 : decode cX7_copy 73 = .ok (.iload 5, 2) := by decide +kernel
theorem dX7_copy_75 : decode cX7_copy 75 = .ok (.i2l, 1) := by decide +kernel
theorem dX7_copy_76 : decode cX7_copy 76 = .ok (.ladd, 1) := by decide +kernel
theorem dX7_copy_77 : decode cX7_copy 77 = .ok (.aload_n 0, 1) := by decide +kernel
theorem dX7_copy_78 : decode cX7_copy 78 = .ok (.getfield 22, 3) := by decide +kernel
theorem dX7_copy_81 : decode cX7_copy 81 = .ok (.iload_n 1, 1) := by decide +kernel
theorem dX7_copy_82 : decode cX7_copy 82 = .ok (.iaload, 1) := by decide +kernel
theorem dX7_copy_83 : decode cX7_copy 83 = .ok (.i2l, 1) := by decide +kernel
theorem dX7_copy_84 : decode cX7_copy 84 = .ok (.lcmp, 1) := by decide +kernel
theorem dX7_copy_85 : decode cX7_copy 85 = .ok (.ifCond .gt 21, 3) := by decide +kernel
theorem dX7_copy_88 : decode cX7_copy 88 = .ok (.iload 4, 2) := by decide +kernel
theorem dX7_copy_90 : decode cX7_copy 90 = .ok (.i2l, 1) := by decide +kernel
theorem dX7_copy_91 : decode cX7_copy 91 = .ok (.iload 5, 2) := by decide +kernel
theorem dX7_copy_93 : decode cX7_copy 93 = .ok (.i2l, 1) := by decide +kernel
theorem dX7_copy_94 : decode cX7_copy 94 = .ok (.ladd, 1) := by decide +kernel
theorem dX7_copy_95 : decode cX7_copy 95 = .ok (.aload_n 0, 1) := by decide +kernel
theorem dX7_copy_96 : decode cX7_copy 96 = .ok (.getfield 22, 3) := by decide +kernel
theorem dX7_copy_99 : decode cX7_copy 99 = .ok (.iload_n 3, 1) := by decide +kernel
theorem dX7_copy_100 : decode cX7_copy 100 = .ok (.iaload, 1) := by decide +kernel
theorem dX7_copy_101 : decode cX7_copy 101 = .ok (.i2l, 1) := by decide +kernel
theorem dX7_copy_102 : decode cX7_copy 102 = .ok (.lcmp, 1) := by decide +kernel
theorem dX7_copy_103 : decode cX7_copy 103 = .ok (.ifCond .le 7, 3) := by decide +kernel
theorem dX7_copy_106 : decode cX7_copy 106 = .ok (.ldc_w 309, 3) := by decide +kernel
theorem dX7_copy_109 : decode cX7_copy 109 = .ok (.ireturn, 1) := by decide +kernel
theorem dX7_copy_110 : decode cX7_copy 110 = .ok (.iconst 0, 1) := by decide +kernel
theorem dX7_copy_111 : decode cX7_copy 111 = .ok (.istore 6, 2) := by decide +kernel
theorem dX7_copy_113 : decode cX7_copy 113 = .ok (.iload 6, 2) := by decide +kernel
theorem dX7_copy_115 : decode cX7_copy 115 = .ok (.iload 5, 2) := by decide +kernel
theorem dX7_copy_117 : decode cX7_copy 117 = .ok (.if_icmp .ge 30, 3) := by decide +kernel
theorem dX7_copy_120 : decode cX7_copy 120 = .ok (.aload_n 0, 1) := by decide +kernel
theorem dX7_copy_121 : decode cX7_copy 121 = .ok (.getfield 61, 3) := by decide +kernel
theorem dX7_copy_124 : decode cX7_copy 124 = .ok (.iload 6, 2) := by decide +kernel
theorem dX7_copy_126 : decode cX7_copy 126 = .ok (.aload_n 0, 1) := by decide +kernel
theorem dX7_copy_127 : decode cX7_copy 127 = .ok (.getfield 25, 3) := by decide +kernel
theorem dX7_copy_130 : decode cX7_copy 130 = .ok (.bipush 24, 2) := by decide +kernel
theorem dX7_copy_132 : decode cX7_copy 132 = .ok (.iload_n 1, 1) := by decide +kernel
theorem dX7_copy_133 : decode cX7_copy 133 = .ok (.imul, 1) := by decide +kernel
theorem dX7_copy_134 : decode cX7_copy 134 = .ok (.iload_n 2, 1) := by decide +kernel
theorem dX7_copy_135 : decode cX7_copy 135 = .ok (.iadd, 1) := by decide +kernel
theorem dX7_copy_136 : decode cX7_copy 136 = .ok (.iload 6, 2) := by decide +kernel
theorem dX7_copy_138 : decode cX7_copy 138 = .ok (.iadd, 1) := by decide +kernel
theorem dX7_copy_139 : decode cX7_copy 139 = .ok (.iaload, 1) := by decide +kernel
theorem dX7_copy_140 : decode cX7_copy 140 = .ok (.iastore, 1) := by decide +kernel
theorem dX7_copy_141 : decode cX7_copy 141 = .ok (.iinc 6 1, 3) := by decide +kernel
theorem dX7_copy_144 : decode cX7_copy 144 = .ok (.goto (-31), 3) := by decide +kernel
theorem dX7_copy_147 : decode cX7_copy 147 = .ok (.iconst 0, 1) := by decide +kernel
theorem dX7_copy_148 : decode cX7_copy 148 = .ok (.istore 6, 2) := by decide +kernel
theorem dX7_copy_150 : decode cX7_copy 150 = .ok (.iload 6, 2) := by decide +kernel
theorem dX7_copy_152 : decode cX7_copy 152 = .ok (.iload 5, 2) := by decide +kernel
theorem dX7_copy_154 : decode cX7_copy 154 = .ok (.if_icmp .ge 31, 3) := by decide +kernel
theorem dX7_copy_157 : decode cX7_copy 157 = .ok (.aload_n 0, 1) := by decide +kernel
theorem dX7_copy_158 : decode cX7_copy 158 = .ok (.getfield 25, 3) := by decide +kernel
theorem dX7_copy_161 : decode cX7_copy 161 = .ok (.bipush 24, 2) := by decide +kernel
theorem dX7_copy_163 : decode cX7_copy 163 = .ok (.iload_n 3, 1) := by decide +kernel
theorem dX7_copy_164 : decode cX7_copy 164 = .ok (.imul, 1) := by decide +kernel
theorem dX7_copy_165 : decode cX7_copy 165 = .ok (.iload 4, 2) := by decide +kernel
theorem dX7_copy_167 : decode cX7_copy 167 = .ok (.iadd, 1) := by decide +kernel
theorem dX7_copy_168 : decode cX7_copy 168 = .ok (.iload 6, 2) := by decide +kernel
theorem dX7_copy_170 : decode cX7_copy 170 = .ok (.iadd, 1) := by decide +kernel
theorem dX7_copy_171 : decode cX7_copy 171 = .ok (.aload_n 0, 1) := by decide +kernel
theorem dX7_copy_172 : decode cX7_copy 172 = .ok (.getfield 61, 3) := by decide +kernel
theorem dX7_copy_175 : decode cX7_copy 175 = .ok (.iload 6, 2) := by decide +kernel
theorem dX7_copy_177 : decode cX7_copy 177 = .ok (.iaload, 1) := by decide +kernel
theorem dX7_copy_178 : decode cX7_copy 178 = .ok (.iastore, 1) := by decide +kernel
theorem dX7_copy_179 : decode cX7_copy 179 = .ok (.iinc 6 1, 3) := by decide +kernel
theorem dX7_copy_182 : decode cX7_copy 182 = .ok (.goto (-32), 3) := by decide +kernel
theorem dX7_copy_185 : decode cX7_copy 185 = .ok (.iload 5, 2) := by decide +kernel
theorem dX7_copy_187 : decode cX7_copy 187 = .ok (.ireturn, 1) := by decide +kernel
theorem dX7_isSlot_0 : decode cX7_isSlot 0 = .ok (.iload_n 0, 1) := by decide +kernel
theorem dX7_isSlot_1 : decode cX7_isSlot 1 = .ok (.i2l, 1) := by decide +kernel
theorem dX7_isSlot_2 : decode cX7_isSlot 2 = .ok (.lconst 0, 1) := by decide +kernel
theorem dX7_isSlot_3 : decode cX7_isSlot 3 = .ok (.ldc2_w 314, 3) := by decide +kernel
theorem dX7_isSlot_6 : decode cX7_isSlot 6 = .ok (.invokestatic 71, 3) := by decide +kernel
theorem dX7_isSlot_9 : decode cX7_isSlot 9 = .ok (.ireturn, 1) := by decide +kernel
theorem dX7_lay_0 : decode cX7_lay 0 = .ok (.iload_n 2, 1) := by decide +kernel
theorem dX7_lay_1 : decode cX7_lay 1 = .ok (.ifCond .eq 33, 3) := by decide +kernel
theorem dX7_lay_4 : decode cX7_lay 4 = .ok (.iload_n 2, 1) := by decide +kernel
theorem dX7_lay_5 : decode cX7_lay 5 = .ok (.iconst 3, 1) := by decide +kernel
theorem dX7_lay_6 : decode cX7_lay 6 = .ok (.if_icmp .eq 28, 3) := by decide +kernel
theorem dX7_lay_9 : decode cX7_lay 9 = .ok (.iload_n 2, 1) := by decide +kernel
theorem dX7_lay_10 : decode cX7_lay 10 = .ok (.iconst 1, 1) := by decide +kernel
theorem dX7_lay_11 : decode cX7_lay 11 = .ok (.if_icmp .ne 11, 3) := by decide +kernel
theorem dX7_lay_14 : decode cX7_lay 14 = .ok (.aload_n 0, 1) := by decide +kernel
theorem dX7_lay_15 : decode cX7_lay 15 = .ok (.iload_n 3, 1) := by decide +kernel
theorem dX7_lay_16 : decode cX7_lay 16 = .ok (.invokevirtual 133, 3) := by decide +kernel
theorem dX7_lay_19 : decode cX7_lay 19 = .ok (.ifCond .ne 15, 3) := by decide +kernel
theorem dX7_lay_22 : decode cX7_lay 22 = .ok (.iload_n 2, 1) := by decide +kernel
theorem dX7_lay_23 : decode cX7_lay 23 = .ok (.iconst 2, 1) := by decide +kernel
theorem dX7_lay_24 : decode cX7_lay 24 = .ok (.if_icmp .ne 14, 3) := by decide +kernel
theorem dX7_lay_27 : decode cX7_lay 27 = .ok (.iload_n 3, 1) := by decide +kernel
theorem dX7_lay_28 : decode cX7_lay 28 = .ok (.invokestatic 302, 3) := by decide +kernel
theorem dX7_lay_31 : decode cX7_lay 31 = .ok (.ifCond .eq 7, 3) := by decide +kernel
theorem dX7_lay_34 : decode cX7_lay 34 = .ok (.iconst 1, 1) := by decide +kernel
theorem dX7_lay_35 : decode cX7_lay 35 = .ok (.goto 4, 3) := by decide +kernel
theorem dX7_lay_38 : decode cX7_lay 38 = .ok (.iconst 0, 1) := by decide +kernel
theorem dX7_lay_39 : decode cX7_lay 39 = .ok (.istore 4, 2) := by decide +kernel
theorem dX7_lay_41 : decode cX7_lay 41 = .ok (.iload_n 1, 1) := by decide +kernel
theorem dX7_lay_42 : decode cX7_lay 42 = .ok (.invokestatic 316, 3) := by decide +kernel
theorem dX7_lay_45 : decode cX7_lay 45 = .ok (.ifCond .eq 8, 3) := by decide +kernel
theorem dX7_lay_48 : decode cX7_lay 48 = .ok (.iload 4, 2) := by decide +kernel
theorem dX7_lay_50 : decode cX7_lay 50 = .ok (.ifCond .ne 6, 3) := by decide +kernel
theorem dX7_lay_53 : decode cX7_lay 53 = .ok (.ldc 100, 2) := by decide +kernel
theorem dX7_lay_55 : decode cX7_lay 55 = .ok (.ireturn, 1) := by decide +kernel
theorem dX7_lay_56 : decode cX7_lay 56 = .ok (.iload_n 2, 1) := by decide +kernel
theorem dX7_lay_57 : decode cX7_lay 57 = .ok (.iconst 2, 1) := by decide +kernel
theorem dX7_lay_58 : decode cX7_lay 58 = .ok (.if_icmp .ne 16, 3) := by decide +kernel
theorem dX7_lay_61 : decode cX7_lay 61 = .ok (.aload_n 0, 1) := by decide +kernel
theorem dX7_lay_62 : decode cX7_lay 62 = .ok (.getfield 19, 3) := by decide +kernel
theorem dX7_lay_65 : decode cX7_lay 65 = .ok (.iload_n 3, 1) := by decide +kernel
theorem dX7_lay_66 : decode cX7_lay 66 = .ok (.iaload, 1) := by decide +kernel
theorem dX7_lay_67 : decode cX7_lay 67 = .ok (.ifCond .ge 7, 3) := by decide +kernel
theorem dX7_lay_70 : decode cX7_lay 70 = .ok (.ldc_w 308, 3) := by decide +kernel
theorem dX7_lay_73 : decode cX7_lay 73 = .ok (.ireturn, 1) := by decide +kernel
theorem dX7_lay_74 : decode cX7_lay 74 = .ok (.aload_n 0, 1) := by decide +kernel
theorem dX7_lay_75 : decode cX7_lay 75 = .ok (.getfield 28, 3) := by decide +kernel
theorem dX7_lay_78 : decode cX7_lay 78 = .ok (.iload_n 1, 1) := by decide +kernel
theorem dX7_lay_79 : decode cX7_lay 79 = .ok (.iaload, 1) := by decide +kernel
theorem dX7_lay_80 : decode cX7_lay 80 = .ok (.istore 5, 2) := by decide +kernel
theorem dX7_lay_82 : decode cX7_lay 82 = .ok (.aload_n 0, 1) := by decide +kernel
theorem dX7_lay_83 : decode cX7_lay 83 = .ok (.getfield 28, 3) := by decide +kernel
theorem dX7_lay_86 : decode cX7_lay 86 = .ok (.iload_n 1, 1) := by decide +kernel
theorem dX7_lay_87 : decode cX7_lay 87 = .ok (.iload_n 2, 1) := by decide +kernel
theorem dX7_lay_88 : decode cX7_lay 88 = .ok (.iastore, 1) := by decide +kernel
theorem dX7_lay_89 : decode cX7_lay 89 = .ok (.aload_n 0, 1) := by decide +kernel
theorem dX7_lay_90 : decode cX7_lay 90 = .ok (.getfield 31, 3) := by decide +kernel
theorem dX7_lay_93 : decode cX7_lay 93 = .ok (.iload_n 1, 1) := by decide +kernel
theorem dX7_lay_94 : decode cX7_lay 94 = .ok (.iload_n 2, 1) := by decide +kernel
theorem dX7_lay_95 : decode cX7_lay 95 = .ok (.iconst 1, 1) := by decide +kernel
theorem dX7_lay_96 : decode cX7_lay 96 = .ok (.if_icmp .ne 12, 3) := by decide +kernel
theorem dX7_lay_99 : decode cX7_lay 99 = .ok (.aload_n 0, 1) := by decide +kernel
theorem dX7_lay_100 : decode cX7_lay 100 = .ok (.iload_n 3, 1) := by decide +kernel
theorem dX7_lay_101 : decode cX7_lay 101 = .ok (.iconst 0, 1) := by decide +kernel
theorem dX7_lay_102 : decode cX7_lay 102 = .ok (.invokevirtual 75, 3) := by decide +kernel
theorem dX7_lay_105 : decode cX7_lay 105 = .ok (.goto 4, 3) := by decide +kernel
theorem dX7_lay_108 : decode cX7_lay 108 = .ok (.iload_n 3, 1) := by decide +kernel
theorem dX7_lay_109 : decode cX7_lay 109 = .ok (.iastore, 1) := by decide +kernel
theorem dX7_lay_110 : decode cX7_lay 110 = .ok (.aload_n 0, 1) := by decide +kernel
theorem dX7_lay_111 : decode cX7_lay 111 = .ok (.getfield 34, 3) := by decide +kernel
theorem dX7_lay_114 : decode cX7_lay 114 = .ok (.iload_n 1, 1) := by decide +kernel
theorem dX7_lay_115 : decode cX7_lay 115 = .ok (.iload_n 2, 1) := by decide +kernel
theorem dX7_lay_116 : decode cX7_lay 116 = .ok (.iconst 1, 1) := by decide +kernel
theorem dX7_lay_117 : decode cX7_lay 117 = .ok (.if_icmp .ne 11, 3) := by decide +kernel
theorem dX7_lay_120 : decode cX7_lay 120 = .ok (.aload_n 0, 1) := by decide +kernel
theorem dX7_lay_121 : decode cX7_lay 121 = .ok (.iload_n 3, 1) := by decide +kernel
theorem dX7_lay_122 : decode cX7_lay 122 = .ok (.invokevirtual 142, 3) := by decide +kernel
theorem dX7_lay_125 : decode cX7_lay 125 = .ok (.goto 4, 3) := by decide +kernel
theorem dX7_lay_128 : decode cX7_lay 128 = .ok (.iconst 0, 1) := by decide +kernel
theorem dX7_lay_129 : decode cX7_lay 129 = .ok (.iastore, 1) := by decide +kernel
theorem dX7_lay_130 : decode cX7_lay 130 = .ok (.iload_n 2, 1) := by decide +kernel
theorem dX7_lay_131 : decode cX7_lay 131 = .ok (.iconst 2, 1) := by decide +kernel
theorem dX7_lay_132 : decode cX7_lay 132 = .ok (.if_icmp .ne 55, 3) := by decide +kernel
theorem dX7_lay_135 : decode cX7_lay 135 = .ok (.aload_n 0, 1) := by decide +kernel
theorem dX7_lay_136 : decode cX7_lay 136 = .ok (.getfield 37, 3) := by decide +kernel
theorem dX7_lay_139 : decode cX7_lay 139 = .ok (.iload_n 1, 1) := by decide +kernel
theorem dX7_lay_140 : decode cX7_lay 140 = .ok (.aload_n 0, 1) := by decide +kernel
theorem dX7_lay_141 : decode cX7_lay 141 = .ok (.getfield 22, 3) := by decide +kernel
theorem dX7_lay_144 : decode cX7_lay 144 = .ok (.iload_n 3, 1) := by decide +kernel
theorem dX7_lay_145 : decode cX7_lay 145 = .ok (.iaload, 1) := by decide +kernel
theorem dX7_lay_146 : decode cX7_lay 146 = .ok (.iastore, 1) := by decide +kernel
theorem dX7_lay_147 : decode cX7_lay 147 = .ok (.iconst 0, 1) := by decide +kernel
theorem dX7_lay_148 : decode cX7_lay 148 = .ok (.istore 6, 2) := by decide +kernel
theorem dX7_lay_150 : decode cX7_lay 150 = .ok (.iload 6, 2) := by decide +kernel
theorem dX7_lay_152 : decode cX7_lay 152 = .ok (.bipush 24, 2) := by decide +kernel
theorem dX7_lay_154 : decode cX7_lay 154 = .ok (.if_icmp .ge 33, 3) := by decide +kernel
theorem dX7_lay_157 : decode cX7_lay 157 = .ok (.aload_n 0, 1) := by decide +kernel
theorem dX7_lay_158 : decode cX7_lay 158 = .ok (.getfield 40, 3) := by decide +kernel
theorem dX7_lay_161 : decode cX7_lay 161 = .ok (.bipush 24, 2) := by decide +kernel
theorem dX7_lay_163 : decode cX7_lay 163 = .ok (.iload_n 1, 1) := by decide +kernel
theorem dX7_lay_164 : decode cX7_lay 164 = .ok (.imul, 1) := by decide +kernel
theorem dX7_lay_165 : decode cX7_lay 165 = .ok (.iload 6, 2) := by decide +kernel
theorem dX7_lay_167 : decode cX7_lay 167 = .ok (.iadd, 1) := by decide +kernel
theorem dX7_lay_168 : decode cX7_lay 168 = .ok (.aload_n 0, 1) := by decide +kernel
theorem dX7_lay_169 : decode cX7_lay 169 = .ok (.getfield 25, 3) := by decide +kernel
theorem dX7_lay_172 : decode cX7_lay 172 = .ok (.bipush 24, 2) := by decide +kernel
theorem dX7_lay_174 : decode cX7_lay 174 = .ok (.iload_n 3, 1) := by decide +kernel
theorem dX7_lay_175 : decode cX7_lay 175 = .ok (.imul, 1) := by decide +kernel
theorem dX7_lay_176 : decode cX7_lay 176 = .ok (.iload 6, 2) := by decide +kernel
theorem dX7_lay_178 : decode cX7_lay 178 = .ok (.iadd, 1) := by decide +kernel
theorem dX7_lay_179 : decode cX7_lay 179 = .ok (.iaload, 1) := by decide +kernel
theorem dX7_lay_180 : decode cX7_lay 180 = .ok (.iastore, 1) := by decide +kernel
theorem dX7_lay_181 : decode cX7_lay 181 = .ok (.iinc 6 1, 3) := by decide +kernel
theorem dX7_lay_184 : decode cX7_lay 184 = .ok (.goto (-34), 3) := by decide +kernel
theorem dX7_lay_187 : decode cX7_lay 187 = .ok (.iload 5, 2) := by decide +kernel
theorem dX7_lay_189 : decode cX7_lay 189 = .ok (.ireturn, 1) := by decide +kernel
theorem dX7_ask_0 : decode cX7_ask 0 = .ok (.iload_n 1, 1) := by decide +kernel
theorem dX7_ask_1 : decode cX7_ask 1 = .ok (.invokestatic 316, 3) := by decide +kernel
theorem dX7_ask_4 : decode cX7_ask 4 = .ok (.ifCond .eq 15, 3) := by decide +kernel
theorem dX7_ask_7 : decode cX7_ask 7 = .ok (.iload_n 2, 1) := by decide +kernel
theorem dX7_ask_8 : decode cX7_ask 8 = .ok (.i2l, 1) := by decide +kernel
theorem dX7_ask_9 : decode cX7_ask 9 = .ok (.lconst 0, 1) := by decide +kernel
theorem dX7_ask_10 : decode cX7_ask 10 = .ok (.ldc2_w 94, 3) := by decide +kernel
theorem dX7_ask_13 : decode cX7_ask 13 = .ok (.invokestatic 71, 3) := by decide +kernel
theorem dX7_ask_16 : decode cX7_ask 16 = .ok (.ifCond .ne 6, 3) := by decide +kernel
theorem dX7_ask_19 : decode cX7_ask 19 = .ok (.ldc 100, 2) := by decide +kernel
theorem dX7_ask_21 : decode cX7_ask 21 = .ok (.ireturn, 1) := by decide +kernel
theorem dX7_ask_22 : decode cX7_ask 22 = .ok (.aload_n 0, 1) := by decide +kernel
theorem dX7_ask_23 : decode cX7_ask 23 = .ok (.getfield 28, 3) := by decide +kernel
theorem dX7_ask_26 : decode cX7_ask 26 = .ok (.iload_n 1, 1) := by decide +kernel
theorem dX7_ask_27 : decode cX7_ask 27 = .ok (.iaload, 1) := by decide +kernel
theorem dX7_ask_28 : decode cX7_ask 28 = .ok (.ifCond .ne 7, 3) := by decide +kernel
theorem dX7_ask_31 : decode cX7_ask 31 = .ok (.ldc_w 308, 3) := by decide +kernel
theorem dX7_ask_34 : decode cX7_ask 34 = .ok (.ireturn, 1) := by decide +kernel
theorem dX7_ask_35 : decode cX7_ask 35 = .ok (.aload_n 0, 1) := by decide +kernel
theorem dX7_ask_36 : decode cX7_ask 36 = .ok (.getfield 28, 3) := by decide +kernel
theorem dX7_ask_39 : decode cX7_ask 39 = .ok (.iload_n 1, 1) := by decide +kernel
theorem dX7_ask_40 : decode cX7_ask 40 = .ok (.iaload, 1) := by decide +kernel
theorem dX7_ask_41 : decode cX7_ask 41 = .ok (.iconst 1, 1) := by decide +kernel
theorem dX7_ask_42 : decode cX7_ask 42 = .ok (.if_icmp .ne 25, 3) := by decide +kernel
theorem dX7_ask_45 : decode cX7_ask 45 = .ok (.aload_n 0, 1) := by decide +kernel
theorem dX7_ask_46 : decode cX7_ask 46 = .ok (.getfield 31, 3) := by decide +kernel
theorem dX7_ask_49 : decode cX7_ask 49 = .ok (.iload_n 1, 1) := by decide +kernel
theorem dX7_ask_50 : decode cX7_ask 50 = .ok (.iaload, 1) := by decide +kernel
theorem dX7_ask_51 : decode cX7_ask 51 = .ok (.iload_n 2, 1) := by decide +kernel
theorem dX7_ask_52 : decode cX7_ask 52 = .ok (.invokestatic 145, 3) := by decide +kernel
theorem dX7_ask_55 : decode cX7_ask 55 = .ok (.ifCond .eq 12, 3) := by decide +kernel
theorem dX7_ask_58 : decode cX7_ask 58 = .ok (.aload_n 0, 1) := by decide +kernel
theorem dX7_ask_59 : decode cX7_ask 59 = .ok (.getfield 34, 3) := by decide +kernel
theorem dX7_ask_62 : decode cX7_ask 62 = .ok (.iload_n 1, 1) := by decide +kernel
theorem dX7_ask_63 : decode cX7_ask 63 = .ok (.iaload, 1) := by decide +kernel
theorem dX7_ask_64 : decode cX7_ask 64 = .ok (.goto 5, 3) := by decide +kernel
theorem dX7_ask_67 : decode cX7_ask 67 = .ok (.ldc 148, 2) := by decide +kernel
theorem dX7_ask_69 : decode cX7_ask 69 = .ok (.ireturn, 1) := by decide +kernel
theorem dX7_item_0 : decode cX7_item 0 = .ok (.iload_n 1, 1) := by decide +kernel
theorem dX7_item_1 : decode cX7_item 1 = .ok (.invokestatic 316, 3) := by decide +kernel
theorem dX7_item_4 : decode cX7_item 4 = .ok (.ifCond .ne 6, 3) := by decide +kernel
theorem dX7_item_7 : decode cX7_item 7 = .ok (.ldc 100, 2) := by decide +kernel
theorem dX7_item_9 : decode cX7_item 9 = .ok (.ireturn, 1) := by decide +kernel
theorem dX7_item_10 : decode cX7_item 10 = .ok (.aload_n 0, 1) := by decide +kernel
theorem dX7_item_11 : decode cX7_item 11 = .ok (.getfield 28, 3) := by decide +kernel
theorem dX7_item_14 : decode cX7_item 14 = .ok (.iload_n 1, 1) := by decide +kernel
theorem dX7_item_15 : decode cX7_item 15 = .ok (.iaload, 1) := by decide +kernel
theorem dX7_item_16 : decode cX7_item 16 = .ok (.iconst 2, 1) := by decide +kernel
theorem dX7_item_17 : decode cX7_item 17 = .ok (.if_icmp .eq 21, 3) := by decide +kernel
theorem dX7_item_20 : decode cX7_item 20 = .ok (.aload_n 0, 1) := by decide +kernel
theorem dX7_item_21 : decode cX7_item 21 = .ok (.getfield 28, 3) := by decide +kernel
theorem dX7_item_24 : decode cX7_item 24 = .ok (.iload_n 1, 1) := by decide +kernel
theorem dX7_item_25 : decode cX7_item 25 = .ok (.iaload, 1) := by decide +kernel
theorem dX7_item_26 : decode cX7_item 26 = .ok (.ifCond .ne 9, 3) := by decide +kernel
theorem dX7_item_29 : decode cX7_item 29 = .ok (.ldc_w 308, 3) := by decide +kernel
theorem dX7_item_32 : decode cX7_item 32 = .ok (.goto 5, 3) := by decide +kernel
theorem dX7_item_35 : decode cX7_item 35 = .ok (.ldc 148, 2) := by decide +kernel
theorem dX7_item_37 : decode cX7_item 37 = .ok (.ireturn, 1) := by decide +kernel
theorem dX7_item_38 : decode cX7_item 38 = .ok (.iload_n 2, 1) := by decide +kernel
theorem dX7_item_39 : decode cX7_item 39 = .ok (.i2l, 1) := by decide +kernel
theorem dX7_item_40 : decode cX7_item 40 = .ok (.lconst 0, 1) := by decide +kernel
theorem dX7_item_41 : decode cX7_item 41 = .ok (.aload_n 0, 1) := by decide +kernel
theorem dX7_item_42 : decode cX7_item 42 = .ok (.getfield 37, 3) := by decide +kernel
theorem dX7_item_45 : decode cX7_item 45 = .ok (.iload_n 1, 1) := by decide +kernel
theorem dX7_item_46 : decode cX7_item 46 = .ok (.iaload, 1) := by decide +kernel
theorem dX7_item_47 : decode cX7_item 47 = .ok (.iconst 1, 1) := by decide +kernel
theorem dX7_item_48 : decode cX7_item 48 = .ok (.isub, 1) := by decide +kernel
theorem dX7_item_49 : decode cX7_item 49 = .ok (.i2l, 1) := by decide +kernel
theorem dX7_item_50 : decode cX7_item 50 = .ok (.invokestatic 71, 3) := by decide +kernel
theorem dX7_item_53 : decode cX7_item 53 = .ok (.ifCond .ne 7, 3) := by decide +kernel
theorem dX7_item_56 : decode cX7_item 56 = .ok (.ldc_w 309, 3) := by decide +kernel
theorem dX7_item_59 : decode cX7_item 59 = .ok (.ireturn, 1) := by decide +kernel
theorem dX7_item_60 : decode cX7_item 60 = .ok (.aload_n 0, 1) := by decide +kernel
theorem dX7_item_61 : decode cX7_item 61 = .ok (.getfield 40, 3) := by decide +kernel
theorem dX7_item_64 : decode cX7_item 64 = .ok (.bipush 24, 2) := by decide +kernel
theorem dX7_item_66 : decode cX7_item 66 = .ok (.iload_n 1, 1) := by decide +kernel
theorem dX7_item_67 : decode cX7_item 67 = .ok (.imul, 1) := by decide +kernel
theorem dX7_item_68 : decode cX7_item 68 = .ok (.iload_n 2, 1) := by decide +kernel
theorem dX7_item_69 : decode cX7_item 69 = .ok (.iadd, 1) := by decide +kernel
theorem dX7_item_70 : decode cX7_item 70 = .ok (.iaload, 1) := by decide +kernel
theorem dX7_item_71 : decode cX7_item 71 = .ok (.istore_n 3, 1) := by decide +kernel
theorem dX7_item_72 : decode cX7_item 72 = .ok (.iload_n 3, 1) := by decide +kernel
theorem dX7_item_73 : decode cX7_item 73 = .ok (.ldc 70, 2) := by decide +kernel
theorem dX7_item_75 : decode cX7_item 75 = .ok (.if_icmp .ne 8, 3) := by decide +kernel
theorem dX7_item_78 : decode cX7_item 78 = .ok (.ldc 148, 2) := by decide +kernel
theorem dX7_item_80 : decode cX7_item 80 = .ok (.goto 4, 3) := by decide +kernel
theorem dX7_item_83 : decode cX7_item 83 = .ok (.iload_n 3, 1) := by decide +kernel
theorem dX7_item_84 : decode cX7_item 84 = .ok (.ireturn, 1) := by decide +kernel
theorem dX7_rest_0 : decode cX7_rest 0 = .ok (.iload_n 1, 1) := by decide +kernel
theorem dX7_rest_1 : decode cX7_rest 1 = .ok (.invokestatic 316, 3) := by decide +kernel
theorem dX7_rest_4 : decode cX7_rest 4 = .ok (.ifCond .ne 6, 3) := by decide +kernel
theorem dX7_rest_7 : decode cX7_rest 7 = .ok (.ldc 100, 2) := by decide +kernel
theorem dX7_rest_9 : decode cX7_rest 9 = .ok (.ireturn, 1) := by decide +kernel
theorem dX7_rest_10 : decode cX7_rest 10 = .ok (.aload_n 0, 1) := by decide +kernel
theorem dX7_rest_11 : decode cX7_rest 11 = .ok (.getfield 28, 3) := by decide +kernel
theorem dX7_rest_14 : decode cX7_rest 14 = .ok (.iload_n 1, 1) := by decide +kernel
theorem dX7_rest_15 : decode cX7_rest 15 = .ok (.iaload, 1) := by decide +kernel
theorem dX7_rest_16 : decode cX7_rest 16 = .ok (.iconst 3, 1) := by decide +kernel
theorem dX7_rest_17 : decode cX7_rest 17 = .ok (.if_icmp .eq 21, 3) := by decide +kernel
theorem dX7_rest_20 : decode cX7_rest 20 = .ok (.aload_n 0, 1) := by decide +kernel
theorem dX7_rest_21 : decode cX7_rest 21 = .ok (.getfield 28, 3) := by decide +kernel
theorem dX7_rest_24 : decode cX7_rest 24 = .ok (.iload_n 1, 1) := by decide +kernel
theorem dX7_rest_25 : decode cX7_rest 25 = .ok (.iaload, 1) := by decide +kernel
theorem dX7_rest_26 : decode cX7_rest 26 = .ok (.ifCond .ne 9, 3) := by decide +kernel
theorem dX7_rest_29 : decode cX7_rest 29 = .ok (.ldc_w 308, 3) := by decide +kernel
theorem dX7_rest_32 : decode cX7_rest 32 = .ok (.goto 5, 3) := by decide +kernel
theorem dX7_rest_35 : decode cX7_rest 35 = .ok (.ldc 148, 2) := by decide +kernel
theorem dX7_rest_37 : decode cX7_rest 37 = .ok (.ireturn, 1) := by decide +kernel
theorem dX7_rest_38 : decode cX7_rest 38 = .ok (.iload_n 2, 1) := by decide +kernel
theorem dX7_rest_39 : decode cX7_rest 39 = .ok (.ifCond .ne 8, 3) := by decide +kernel
theorem dX7_rest_42 : decode cX7_rest 42 = .ok (.ldc 152, 2) := by decide +kernel
theorem dX7_rest_44 : decode cX7_rest 44 = .ok (.goto 11, 3) := by decide +kernel
theorem dX7_rest_47 : decode cX7_rest 47 = .ok (.aload_n 0, 1) := by decide +kernel
theorem dX7_rest_48 : decode cX7_rest 48 = .ok (.getfield 31, 3) := by decide +kernel
theorem dX7_rest_51 : decode cX7_rest 51 = .ok (.iload_n 1, 1) := by decide +kernel
theorem dX7_rest_52 : decode cX7_rest 52 = .ok (.iaload, 1) := by decide +kernel
theorem dX7_rest_53 : decode cX7_rest 53 = .ok (.iload_n 2, 1) := by decide +kernel
theorem dX7_rest_54 : decode cX7_rest 54 = .ok (.irem, 1) := by decide +kernel
theorem dX7_rest_55 : decode cX7_rest 55 = .ok (.ireturn, 1) := by decide +kernel
theorem dX7_tell_0 : decode cX7_tell 0 = .ok (.aload_n 0, 1) := by decide +kernel
theorem dX7_tell_1 : decode cX7_tell 1 = .ok (.getfield 319, 3) := by decide +kernel
theorem dX7_tell_4 : decode cX7_tell 4 = .ok (.bipush 60, 2) := by decide +kernel
theorem dX7_tell_6 : decode cX7_tell 6 = .ok (.if_icmp .ne 6, 3) := by decide +kernel
theorem dX7_tell_9 : decode cX7_tell 9 = .ok (.ldc 101, 2) := by decide +kernel
theorem dX7_tell_11 : decode cX7_tell 11 = .ok (.ireturn, 1) := by decide +kernel
theorem dX7_tell_12 : decode cX7_tell 12 = .ok (.aload_n 0, 1) := by decide +kernel
theorem dX7_tell_13 : decode cX7_tell 13 = .ok (.getfield 64, 3) := by decide +kernel
theorem dX7_tell_16 : decode cX7_tell 16 = .ok (.aload_n 0, 1) := by decide +kernel
theorem dX7_tell_17 : decode cX7_tell 17 = .ok (.getfield 319, 3) := by decide +kernel
theorem dX7_tell_20 : decode cX7_tell 20 = .ok (.iload_n 1, 1) := by decide +kernel
theorem dX7_tell_21 : decode cX7_tell 21 = .ok (.iastore, 1) := by decide +kernel
theorem dX7_tell_22 : decode cX7_tell 22 = .ok (.aload_n 0, 1) := by decide +kernel
theorem dX7_tell_23 : decode cX7_tell 23 = .ok (.dup, 1) := by decide +kernel
theorem dX7_tell_24 : decode cX7_tell 24 = .ok (.getfield 319, 3) := by decide +kernel
theorem dX7_tell_27 : decode cX7_tell 27 = .ok (.iconst 1, 1) := by decide +kernel
theorem dX7_tell_28 : decode cX7_tell 28 = .ok (.iadd, 1) := by decide +kernel
theorem dX7_tell_29 : decode cX7_tell 29 = .ok (.putfield 319, 3) := by decide +kernel
theorem dX7_tell_32 : decode cX7_tell 32 = .ok (.aload_n 0, 1) := by decide +kernel
theorem dX7_tell_33 : decode cX7_tell 33 = .ok (.getfield 319, 3) := by decide +kernel
theorem dX7_tell_36 : decode cX7_tell 36 = .ok (.ireturn, 1) := by decide +kernel
theorem dX7_setAside_0 : decode cX7_setAside 0 = .ok (.iconst 0, 1) := by decide +kernel
theorem dX7_setAside_1 : decode cX7_setAside 1 = .ok (.istore_n 3, 1) := by decide +kernel
theorem dX7_setAside_2 : decode cX7_setAside 2 = .ok (.iload_n 3, 1) := by decide +kernel
theorem dX7_setAside_3 : decode cX7_setAside 3 = .ok (.sipush 2869, 3) := by decide +kernel
theorem dX7_setAside_6 : decode cX7_setAside 6 = .ok (.if_icmp .ge 15, 3) := by decide +kernel
theorem dX7_setAside_9 : decode cX7_setAside 9 = .ok (.aload_n 2, 1) := by decide +kernel
theorem dX7_setAside_10 : decode cX7_setAside 10 = .ok (.iload_n 3, 1) := by decide +kernel
theorem dX7_setAside_11 : decode cX7_setAside 11 = .ok (.aload_n 1, 1) := by decide +kernel
theorem dX7_setAside_12 : decode cX7_setAside 12 = .ok (.iload_n 3, 1) := by decide +kernel
theorem dX7_setAside_13 : decode cX7_setAside 13 = .ok (.iaload, 1) := by decide +kernel
theorem dX7_setAside_14 : decode cX7_setAside 14 = .ok (.iastore, 1) := by decide +kernel
theorem dX7_setAside_15 : decode cX7_setAside 15 = .ok (.iinc 3 1, 3) := by decide +kernel
theorem dX7_setAside_18 : decode cX7_setAside 18 = .ok (.goto (-16), 3) := by decide +kernel
theorem dX7_setAside_21 : decode cX7_setAside 21 = .ok (.return_, 1) := by decide +kernel
theorem dX7_check_0 : decode cX7_check 0 = .ok (.aload_n 0, 1) := by decide +kernel
theorem dX7_check_1 : decode cX7_check 1 = .ok (.getfield 319, 3) := by decide +kernel
theorem dX7_check_4 : decode cX7_check 4 = .ok (.istore_n 2, 1) := by decide +kernel
theorem dX7_check_5 : decode cX7_check 5 = .ok (.aload_n 0, 1) := by decide +kernel
theorem dX7_check_6 : decode cX7_check 6 = .ok (.iconst 0, 1) := by decide +kernel
theorem dX7_check_7 : decode cX7_check 7 = .ok (.putfield 319, 3) := by decide +kernel
theorem dX7_check_10 : decode cX7_check 10 = .ok (.iload_n 1, 1) := by decide +kernel
theorem dX7_check_11 : decode cX7_check 11 = .ok (.i2l, 1) := by decide +kernel
theorem dX7_check_12 : decode cX7_check 12 = .ok (.lconst 1, 1) := by decide +kernel
theorem dX7_check_13 : decode cX7_check 13 = .ok (.ldc2_w 322, 3) := by decide +kernel
theorem dX7_check_16 : decode cX7_check 16 = .ok (.invokestatic 71, 3) := by decide +kernel
theorem dX7_check_19 : decode cX7_check 19 = .ok (.ifCond .ne 6, 3) := by decide +kernel
theorem dX7_check_22 : decode cX7_check 22 = .ok (.ldc 100, 2) := by decide +kernel
theorem dX7_check_24 : decode cX7_check 24 = .ok (.ireturn, 1) := by decide +kernel
theorem dX7_check_25 : decode cX7_check 25 = .ok (.aload_n 0, 1) := by decide +kernel
theorem dX7_check_26 : decode cX7_check 26 = .ok (.getfield 324, 3) := by decide +kernel
theorem dX7_check_29 : decode cX7_check 29 = .ok (.ifCond .ne 6, 3) := by decide +kernel
theorem dX7_check_32 : decode cX7_check 32 = .ok (.ldc 152, 2) := by decide +kernel
theorem dX7_check_34 : decode cX7_check 34 = .ok (.ireturn, 1) := by decide +kernel
theorem dX7_check_35 : decode cX7_check 35 = .ok (.aload_n 0, 1) := by decide +kernel
theorem dX7_check_36 : decode cX7_check 36 = .ok (.aload_n 0, 1) := by decide +kernel
theorem dX7_check_37 : decode cX7_check 37 = .ok (.getfield 7, 3) := by decide +kernel
theorem dX7_check_40 : decode cX7_check 40 = .ok (.aload_n 0, 1) := by decide +kernel
theorem dX7_check_41 : decode cX7_check 41 = .ok (.getfield 16, 3) := by decide +kernel
theorem dX7_check_44 : decode cX7_check 44 = .ok (.invokevirtual 328, 3) := by decide +kernel
theorem dX7_check_47 : decode cX7_check 47 = .ok (.aload_n 0, 1) := by decide +kernel
theorem dX7_check_48 : decode cX7_check 48 = .ok (.aload_n 0, 1) := by decide +kernel
theorem dX7_check_49 : decode cX7_check 49 = .ok (.getfield 13, 3) := by decide +kernel
theorem dX7_check_52 : decode cX7_check 52 = .ok (.aload_n 0, 1) := by decide +kernel
theorem dX7_check_53 : decode cX7_check 53 = .ok (.getfield 7, 3) := by decide +kernel
theorem dX7_check_56 : decode cX7_check 56 = .ok (.invokevirtual 328, 3) := by decide +kernel
theorem dX7_check_59 : decode cX7_check 59 = .ok (.iconst 0, 1) := by decide +kernel
theorem dX7_check_60 : decode cX7_check 60 = .ok (.istore_n 3, 1) := by decide +kernel
theorem dX7_check_61 : decode cX7_check 61 = .ok (.iconst 0, 1) := by decide +kernel
theorem dX7_check_62 : decode cX7_check 62 = .ok (.istore 4, 2) := by decide +kernel
theorem dX7_check_64 : decode cX7_check 64 = .ok (.iload 4, 2) := by decide +kernel
theorem dX7_check_66 : decode cX7_check 66 = .ok (.iload_n 1, 1) := by decide +kernel
theorem dX7_check_67 : decode cX7_check 67 = .ok (.if_icmp .ge 54, 3) := by decide +kernel
theorem dX7_check_70 : decode cX7_check 70 = .ok (.aload_n 0, 1) := by decide +kernel
theorem dX7_check_71 : decode cX7_check 71 = .ok (.getfield 7, 3) := by decide +kernel
theorem dX7_check_74 : decode cX7_check 74 = .ok (.iconst 2, 1) := by decide +kernel
theorem dX7_check_75 : decode cX7_check 75 = .ok (.iaload, 1) := by decide +kernel
theorem dX7_check_76 : decode cX7_check 76 = .ok (.sipush 9999, 3) := by decide +kernel
theorem dX7_check_79 : decode cX7_check 79 = .ok (.if_icmp .ge 42, 3) := by decide +kernel
theorem dX7_check_82 : decode cX7_check 82 = .ok (.aload_n 0, 1) := by decide +kernel
theorem dX7_check_83 : decode cX7_check 83 = .ok (.invokevirtual 172, 3) := by decide +kernel
theorem dX7_check_86 : decode cX7_check 86 = .ok (.aload_n 0, 1) := by decide +kernel
theorem dX7_check_87 : decode cX7_check 87 = .ok (.getfield 67, 3) := by decide +kernel
theorem dX7_check_90 : decode cX7_check 90 = .ok (.iload_n 3, 1) := by decide +kernel
theorem dX7_check_91 : decode cX7_check 91 = .ok (.aload_n 0, 1) := by decide +kernel
theorem dX7_check_92 : decode cX7_check 92 = .ok (.invokevirtual 123, 3) := by decide +kernel
theorem dX7_check_95 : decode cX7_check 95 = .ok (.invokestatic 157, 3) := by decide +kernel
theorem dX7_check_98 : decode cX7_check 98 = .ok (.iastore, 1) := by decide +kernel
theorem dX7_check_99 : decode cX7_check 99 = .ok (.aload_n 0, 1) := by decide +kernel
theorem dX7_check_100 : decode cX7_check 100 = .ok (.getfield 67, 3) := by decide +kernel
theorem dX7_check_103 : decode cX7_check 103 = .ok (.iload_n 3, 1) := by decide +kernel
theorem dX7_check_104 : decode cX7_check 104 = .ok (.iconst 1, 1) := by decide +kernel
theorem dX7_check_105 : decode cX7_check 105 = .ok (.iadd, 1) := by decide +kernel
theorem dX7_check_106 : decode cX7_check 106 = .ok (.aload_n 0, 1) := by decide +kernel
theorem dX7_check_107 : decode cX7_check 107 = .ok (.iconst 4, 1) := by decide +kernel
theorem dX7_check_108 : decode cX7_check 108 = .ok (.invokevirtual 175, 3) := by decide +kernel
theorem dX7_check_111 : decode cX7_check 111 = .ok (.iastore, 1) := by decide +kernel
theorem dX7_check_112 : decode cX7_check 112 = .ok (.iinc 3 2, 3) := by decide +kernel
theorem dX7_check_115 : decode cX7_check 115 = .ok (.iinc 4 1, 3) := by decide +kernel
theorem dX7_check_118 : decode cX7_check 118 = .ok (.goto (-54), 3) := by decide +kernel
theorem dX7_check_121 : decode cX7_check 121 = .ok (.aload_n 0, 1) := by decide +kernel
theorem dX7_check_122 : decode cX7_check 122 = .ok (.aload_n 0, 1) := by decide +kernel
theorem dX7_check_123 : decode cX7_check 123 = .ok (.getfield 16, 3) := by decide +kernel
theorem dX7_check_126 : decode cX7_check 126 = .ok (.aload_n 0, 1) := by decide +kernel
theorem dX7_check_127 : decode cX7_check 127 = .ok (.getfield 7, 3) := by decide +kernel
theorem dX7_check_130 : decode cX7_check 130 = .ok (.invokevirtual 328, 3) := by decide +kernel
theorem dX7_check_133 : decode cX7_check 133 = .ok (.iconst 0, 1) := by decide +kernel
theorem dX7_check_134 : decode cX7_check 134 = .ok (.istore 4, 2) := by decide +kernel
theorem dX7_check_136 : decode cX7_check 136 = .ok (.iload 4, 2) := by decide +kernel
theorem dX7_check_138 : decode cX7_check 138 = .ok (.iload_n 2, 1) := by decide +kernel
theorem dX7_check_139 : decode cX7_check 139 = .ok (.if_icmp .ge 32, 3) := by decide +kernel
theorem dX7_check_142 : decode cX7_check 142 = .ok (.iload 4, 2) := by decide +kernel
theorem dX7_check_144 : decode cX7_check 144 = .ok (.iload_n 3, 1) := by decide +kernel
theorem dX7_check_145 : decode cX7_check 145 = .ok (.if_icmp .ge 26, 3) := by decide +kernel
theorem dX7_check_148 : decode cX7_check 148 = .ok (.aload_n 0, 1) := by decide +kernel
theorem dX7_check_149 : decode cX7_check 149 = .ok (.getfield 64, 3) := by decide +kernel
theorem dX7_check_152 : decode cX7_check 152 = .ok (.iload 4, 2) := by decide +kernel
theorem dX7_check_154 : decode cX7_check 154 = .ok (.iaload, 1) := by decide +kernel
theorem dX7_check_155 : decode cX7_check 155 = .ok (.aload_n 0, 1) := by decide +kernel
theorem dX7_check_156 : decode cX7_check 156 = .ok (.getfield 67, 3) := by decide +kernel
theorem dX7_check_159 : decode cX7_check 159 = .ok (.iload 4, 2) := by decide +kernel
theorem dX7_check_161 : decode cX7_check 161 = .ok (.iaload, 1) := by decide +kernel
theorem dX7_check_162 : decode cX7_check 162 = .ok (.if_icmp .ne 9, 3) := by decide +kernel
theorem dX7_check_165 : decode cX7_check 165 = .ok (.iinc 4 1, 3) := by decide +kernel
theorem dX7_check_168 : decode cX7_check 168 = .ok (.goto (-32), 3) := by decide +kernel
theorem dX7_check_171 : decode cX7_check 171 = .ok (.iload 4, 2) := by decide +kernel
theorem dX7_check_173 : decode cX7_check 173 = .ok (.iload_n 2, 1) := by decide +kernel
theorem dX7_check_174 : decode cX7_check 174 = .ok (.if_icmp .ne 13, 3) := by decide +kernel
theorem dX7_check_177 : decode cX7_check 177 = .ok (.iload 4, 2) := by decide +kernel
theorem dX7_check_179 : decode cX7_check 179 = .ok (.iload_n 3, 1) := by decide +kernel
theorem dX7_check_180 : decode cX7_check 180 = .ok (.if_icmp .ne 7, 3) := by decide +kernel
theorem dX7_check_183 : decode cX7_check 183 = .ok (.iconst 0, 1) := by decide +kernel
theorem dX7_check_184 : decode cX7_check 184 = .ok (.goto 7, 3) := by decide +kernel
theorem dX7_check_187 : decode cX7_check 187 = .ok (.iconst 1, 1) := by decide +kernel
theorem dX7_check_188 : decode cX7_check 188 = .ok (.iload 4, 2) := by decide +kernel
theorem dX7_check_190 : decode cX7_check 190 = .ok (.iadd, 1) := by decide +kernel
theorem dX7_check_191 : decode cX7_check 191 = .ok (.ireturn, 1) := by decide +kernel
theorem dX7_keep_0 : decode cX7_keep 0 = .ok (.aload_n 0, 1) := by decide +kernel
theorem dX7_keep_1 : decode cX7_keep 1 = .ok (.iconst 1, 1) := by decide +kernel
theorem dX7_keep_2 : decode cX7_keep 2 = .ok (.putfield 324, 3) := by decide +kernel
theorem dX7_keep_5 : decode cX7_keep 5 = .ok (.aload_n 0, 1) := by decide +kernel
theorem dX7_keep_6 : decode cX7_keep 6 = .ok (.aload_n 0, 1) := by decide +kernel
theorem dX7_keep_7 : decode cX7_keep 7 = .ok (.getfield 7, 3) := by decide +kernel
theorem dX7_keep_10 : decode cX7_keep 10 = .ok (.aload_n 0, 1) := by decide +kernel
theorem dX7_keep_11 : decode cX7_keep 11 = .ok (.getfield 13, 3) := by decide +kernel
theorem dX7_keep_14 : decode cX7_keep 14 = .ok (.invokevirtual 328, 3) := by decide +kernel
theorem dX7_keep_17 : decode cX7_keep 17 = .ok (.aload_n 0, 1) := by decide +kernel
theorem dX7_keep_18 : decode cX7_keep 18 = .ok (.getfield 7, 3) := by decide +kernel
theorem dX7_keep_21 : decode cX7_keep 21 = .ok (.iconst 0, 1) := by decide +kernel
theorem dX7_keep_22 : decode cX7_keep 22 = .ok (.iaload, 1) := by decide +kernel
theorem dX7_keep_23 : decode cX7_keep 23 = .ok (.ireturn, 1) := by decide +kernel
theorem dX7_back_0 : decode cX7_back 0 = .ok (.aload_n 0, 1) := by decide +kernel
theorem dX7_back_1 : decode cX7_back 1 = .ok (.getfield 324, 3) := by decide +kernel
theorem dX7_back_4 : decode cX7_back 4 = .ok (.ifCond .ne 6, 3) := by decide +kernel
theorem dX7_back_7 : decode cX7_back 7 = .ok (.ldc 152, 2) := by decide +kernel
theorem dX7_back_9 : decode cX7_back 9 = .ok (.ireturn, 1) := by decide +kernel
theorem dX7_back_10 : decode cX7_back 10 = .ok (.aload_n 0, 1) := by decide +kernel
theorem dX7_back_11 : decode cX7_back 11 = .ok (.aload_n 0, 1) := by decide +kernel
theorem dX7_back_12 : decode cX7_back 12 = .ok (.getfield 13, 3) := by decide +kernel
theorem dX7_back_15 : decode cX7_back 15 = .ok (.aload_n 0, 1) := by decide +kernel
theorem dX7_back_16 : decode cX7_back 16 = .ok (.getfield 7, 3) := by decide +kernel
theorem dX7_back_19 : decode cX7_back 19 = .ok (.invokevirtual 328, 3) := by decide +kernel
theorem dX7_back_22 : decode cX7_back 22 = .ok (.aload_n 0, 1) := by decide +kernel
theorem dX7_back_23 : decode cX7_back 23 = .ok (.getfield 7, 3) := by decide +kernel
theorem dX7_back_26 : decode cX7_back 26 = .ok (.iconst 0, 1) := by decide +kernel
theorem dX7_back_27 : decode cX7_back 27 = .ok (.iaload, 1) := by decide +kernel
theorem dX7_back_28 : decode cX7_back 28 = .ok (.ireturn, 1) := by decide +kernel
theorem dX7_count_0 : decode cX7_count 0 = .ok (.iload_n 1, 1) := by decide +kernel
theorem dX7_count_1 : decode cX7_count 1 = .ok (.tableswitch 100 0 7 #[47, 54, 62, 69, 76, 83, 88, 93], 47) := by decide +kernel
theorem dX7_count_48 : decode cX7_count 48 = .ok (.aload_n 0, 1) := by decide +kernel
theorem dX7_count_49 : decode cX7_count 49 = .ok (.getfield 7, 3) := by decide +kernel
theorem dX7_count_52 : decode cX7_count 52 = .ok (.iconst 0, 1) := by decide +kernel
theorem dX7_count_53 : decode cX7_count 53 = .ok (.iaload, 1) := by decide +kernel
theorem dX7_count_54 : decode cX7_count 54 = .ok (.ireturn, 1) := by decide +kernel
theorem dX7_count_55 : decode cX7_count 55 = .ok (.aload_n 0, 1) := by decide +kernel
theorem dX7_count_56 : decode cX7_count 56 = .ok (.invokevirtual 123, 3) := by decide +kernel
theorem dX7_count_59 : decode cX7_count 59 = .ok (.invokestatic 157, 3) := by decide +kernel
theorem dX7_count_62 : decode cX7_count 62 = .ok (.ireturn, 1) := by decide +kernel
theorem dX7_count_63 : decode cX7_count 63 = .ok (.aload_n 0, 1) := by decide +kernel
theorem dX7_count_64 : decode cX7_count 64 = .ok (.getfield 7, 3) := by decide +kernel
theorem dX7_count_67 : decode cX7_count 67 = .ok (.iconst 2, 1) := by decide +kernel
theorem dX7_count_68 : decode cX7_count 68 = .ok (.iaload, 1) := by decide +kernel
theorem dX7_count_69 : decode cX7_count 69 = .ok (.ireturn, 1) := by decide +kernel
theorem dX7_count_70 : decode cX7_count 70 = .ok (.aload_n 0, 1) := by decide +kernel
theorem dX7_count_71 : decode cX7_count 71 = .ok (.getfield 7, 3) := by decide +kernel
theorem dX7_count_74 : decode cX7_count 74 = .ok (.iconst 4, 1) := by decide +kernel
theorem dX7_count_75 : decode cX7_count 75 = .ok (.iaload, 1) := by decide +kernel
theorem dX7_count_76 : decode cX7_count 76 = .ok (.ireturn, 1) := by decide +kernel
theorem dX7_count_77 : decode cX7_count 77 = .ok (.aload_n 0, 1) := by decide +kernel
theorem dX7_count_78 : decode cX7_count 78 = .ok (.getfield 7, 3) := by decide +kernel
theorem dX7_count_81 : decode cX7_count 81 = .ok (.iconst 1, 1) := by decide +kernel
theorem dX7_count_82 : decode cX7_count 82 = .ok (.iaload, 1) := by decide +kernel
theorem dX7_count_83 : decode cX7_count 83 = .ok (.ireturn, 1) := by decide +kernel
theorem dX7_count_84 : decode cX7_count 84 = .ok (.aload_n 0, 1) := by decide +kernel
theorem dX7_count_85 : decode cX7_count 85 = .ok (.getfield 319, 3) := by decide +kernel
theorem dX7_count_88 : decode cX7_count 88 = .ok (.ireturn, 1) := by decide +kernel
theorem dX7_count_89 : decode cX7_count 89 = .ok (.aload_n 0, 1) := by decide +kernel
theorem dX7_count_90 : decode cX7_count 90 = .ok (.getfield 200, 3) := by decide +kernel
theorem dX7_count_93 : decode cX7_count 93 = .ok (.ireturn, 1) := by decide +kernel
theorem dX7_count_94 : decode cX7_count 94 = .ok (.aload_n 0, 1) := by decide +kernel
theorem dX7_count_95 : decode cX7_count 95 = .ok (.getfield 7, 3) := by decide +kernel
theorem dX7_count_98 : decode cX7_count 98 = .ok (.iconst 5, 1) := by decide +kernel
theorem dX7_count_99 : decode cX7_count 99 = .ok (.iaload, 1) := by decide +kernel
theorem dX7_count_100 : decode cX7_count 100 = .ok (.ireturn, 1) := by decide +kernel
theorem dX7_count_101 : decode cX7_count 101 = .ok (.ldc 100, 2) := by decide +kernel
theorem dX7_count_103 : decode cX7_count 103 = .ok (.ireturn, 1) := by decide +kernel
