theorem dX9_init_0 : decode cX9_init 0 = .ok (.aload_n 0, 1) := by decide +kernel
theorem dX9_init_1 : decode cX9_init 1 = .ok (.invokespecial 1, 3) := by decide +kernel
theorem dX9_init_4 : decode cX9_init 4 = .ok (.aload_n 0, 1) := by decide +kernel
theorem dX9_init_5 : decode cX9_init 5 = .ok (.sipush 3147, 3) := by decide +kernel
theorem dX9_init_8 : decode cX9_init 8 = .ok (.newarray .int, 2) := by decide +kernel
theorem dX9_init_10 : decode cX9_init 10 = .ok (.putfield 7, 3) := by decide +kernel
theorem dX9_init_13 : decode cX9_init 13 = .ok (.aload_n 0, 1) := by decide +kernel
theorem dX9_init_14 : decode cX9_init 14 = .ok (.sipush 3147, 3) := by decide +kernel
theorem dX9_init_17 : decode cX9_init 17 = .ok (.newarray .int, 2) := by decide +kernel
theorem dX9_init_19 : decode cX9_init 19 = .ok (.putfield 13, 3) := by decide +kernel
theorem dX9_init_22 : decode cX9_init 22 = .ok (.aload_n 0, 1) := by decide +kernel
theorem dX9_init_23 : decode cX9_init 23 = .ok (.sipush 3147, 3) := by decide +kernel
theorem dX9_init_26 : decode cX9_init 26 = .ok (.newarray .int, 2) := by decide +kernel
theorem dX9_init_28 : decode cX9_init 28 = .ok (.putfield 16, 3) := by decide +kernel
theorem dX9_init_31 : decode cX9_init 31 = .ok (.aload_n 0, 1) := by decide +kernel
theorem dX9_init_32 : decode cX9_init 32 = .ok (.iconst 4, 1) := by decide +kernel
theorem dX9_init_33 : decode cX9_init 33 = .ok (.newarray .int, 2) := by decide +kernel
theorem dX9_init_35 : decode cX9_init 35 = .ok (.putfield 19, 3) := by decide +kernel
theorem dX9_init_38 : decode cX9_init 38 = .ok (.aload_n 0, 1) := by decide +kernel
theorem dX9_init_39 : decode cX9_init 39 = .ok (.iconst 4, 1) := by decide +kernel
theorem dX9_init_40 : decode cX9_init 40 = .ok (.newarray .int, 2) := by decide +kernel
theorem dX9_init_42 : decode cX9_init 42 = .ok (.putfield 22, 3) := by decide +kernel
theorem dX9_init_45 : decode cX9_init 45 = .ok (.aload_n 0, 1) := by decide +kernel
theorem dX9_init_46 : decode cX9_init 46 = .ok (.bipush 96, 2) := by decide +kernel
theorem dX9_init_48 : decode cX9_init 48 = .ok (.newarray .int, 2) := by decide +kernel
theorem dX9_init_50 : decode cX9_init 50 = .ok (.putfield 25, 3) := by decide +kernel
theorem dX9_init_53 : decode cX9_init 53 = .ok (.aload_n 0, 1) := by decide +kernel
theorem dX9_init_54 : decode cX9_init 54 = .ok (.iconst 5, 1) := by decide +kernel
theorem dX9_init_55 : decode cX9_init 55 = .ok (.newarray .int, 2) := by decide +kernel
theorem dX9_init_57 : decode cX9_init 57 = .ok (.putfield 28, 3) := by decide +kernel
theorem dX9_init_60 : decode cX9_init 60 = .ok (.aload_n 0, 1) := by decide +kernel
theorem dX9_init_61 : decode cX9_init 61 = .ok (.iconst 5, 1) := by decide +kernel
theorem dX9_init_62 : decode cX9_init 62 = .ok (.newarray .int, 2) := by decide +kernel
theorem dX9_init_64 : decode cX9_init 64 = .ok (.putfield 31, 3) := by decide +kernel
theorem dX9_init_67 : decode cX9_init 67 = .ok (.aload_n 0, 1) := by decide +kernel
theorem dX9_init_68 : decode cX9_init 68 = .ok (.iconst 5, 1) := by decide +kernel
theorem dX9_init_69 : decode cX9_init 69 = .ok (.newarray .int, 2) := by decide +kernel
theorem dX9_init_71 : decode cX9_init 71 = .ok (.putfield 34, 3) := by decide +kernel
theorem dX9_init_74 : decode cX9_init 74 = .ok (.aload_n 0, 1) := by decide +kernel
theorem dX9_init_75 : decode cX9_init 75 = .ok (.iconst 5, 1) := by decide +kernel
theorem dX9_init_76 : decode cX9_init 76 = .ok (.newarray .int, 2) := by decide +kernel
theorem dX9_init_78 : decode cX9_init 78 = .ok (.putfield 37, 3) := by decide +kernel
theorem dX9_init_81 : decode cX9_init 81 = .ok (.aload_n 0, 1) := by decide +kernel
theorem dX9_init_82 : decode cX9_init 82 = .ok (.bipush 120, 2) := by decide +kernel
theorem dX9_init_84 : decode cX9_init 84 = .ok (.newarray .int, 2) := by decide +kernel
theorem dX9_init_86 : decode cX9_init 86 = .ok (.putfield 40, 3) := by decide +kernel
theorem dX9_init_89 : decode cX9_init 89 = .ok (.aload_n 0, 1) := by decide +kernel
theorem dX9_init_90 : decode cX9_init 90 = .ok (.bipush 8, 2) := by decide +kernel
theorem dX9_init_92 : decode cX9_init 92 = .ok (.newarray .int, 2) := by decide +kernel
theorem dX9_init_94 : decode cX9_init 94 = .ok (.putfield 43, 3) := by decide +kernel
theorem dX9_init_97 : decode cX9_init 97 = .ok (.aload_n 0, 1) := by decide +kernel
theorem dX9_init_98 : decode cX9_init 98 = .ok (.bipush 96, 2) := by decide +kernel
theorem dX9_init_100 : decode cX9_init 100 = .ok (.newarray .int, 2) := by decide +kernel
theorem dX9_init_102 : decode cX9_init 102 = .ok (.putfield 46, 3) := by decide +kernel
theorem dX9_init_105 : decode cX9_init 105 = .ok (.aload_n 0, 1) := by decide +kernel
theorem dX9_init_106 : decode cX9_init 106 = .ok (.sipush 128, 3) := by decide +kernel
theorem dX9_init_109 : decode cX9_init 109 = .ok (.newarray .int, 2) := by decide +kernel
theorem dX9_init_111 : decode cX9_init 111 = .ok (.putfield 49, 3) := by decide +kernel
theorem dX9_init_114 : decode cX9_init 114 = .ok (.aload_n 0, 1) := by decide +kernel
theorem dX9_init_115 : decode cX9_init 115 = .ok (.bipush 100, 2) := by decide +kernel
theorem dX9_init_117 : decode cX9_init 117 = .ok (.newarray .int, 2) := by decide +kernel
theorem dX9_init_119 : decode cX9_init 119 = .ok (.putfield 52, 3) := by decide +kernel
theorem dX9_init_122 : decode cX9_init 122 = .ok (.aload_n 0, 1) := by decide +kernel
theorem dX9_init_123 : decode cX9_init 123 = .ok (.bipush 24, 2) := by decide +kernel
theorem dX9_init_125 : decode cX9_init 125 = .ok (.newarray .int, 2) := by decide +kernel
theorem dX9_init_127 : decode cX9_init 127 = .ok (.putfield 55, 3) := by decide +kernel
theorem dX9_init_130 : decode cX9_init 130 = .ok (.aload_n 0, 1) := by decide +kernel
theorem dX9_init_131 : decode cX9_init 131 = .ok (.bipush 60, 2) := by decide +kernel
theorem dX9_init_133 : decode cX9_init 133 = .ok (.newarray .int, 2) := by decide +kernel
theorem dX9_init_135 : decode cX9_init 135 = .ok (.putfield 58, 3) := by decide +kernel
theorem dX9_init_138 : decode cX9_init 138 = .ok (.aload_n 0, 1) := by decide +kernel
theorem dX9_init_139 : decode cX9_init 139 = .ok (.bipush 60, 2) := by decide +kernel
theorem dX9_init_141 : decode cX9_init 141 = .ok (.newarray .int, 2) := by decide +kernel
theorem dX9_init_143 : decode cX9_init 143 = .ok (.putfield 61, 3) := by decide +kernel
theorem dX9_init_146 : decode cX9_init 146 = .ok (.aload_n 0, 1) := by decide +kernel
theorem dX9_init_147 : decode cX9_init 147 = .ok (.getfield 7, 3) := by decide +kernel
theorem dX9_init_150 : decode cX9_init 150 = .ok (.iconst 4, 1) := by decide +kernel
theorem dX9_init_151 : decode cX9_init 151 = .ok (.iconst 1, 1) := by decide +kernel
theorem dX9_init_152 : decode cX9_init 152 = .ok (.iastore, 1) := by decide +kernel
theorem dX9_init_153 : decode cX9_init 153 = .ok (.aload_n 0, 1) := by decide +kernel
theorem dX9_init_154 : decode cX9_init 154 = .ok (.getfield 7, 3) := by decide +kernel
theorem dX9_init_157 : decode cX9_init 157 = .ok (.iconst 5, 1) := by decide +kernel
theorem dX9_init_158 : decode cX9_init 158 = .ok (.iconst 2, 1) := by decide +kernel
theorem dX9_init_159 : decode cX9_init 159 = .ok (.iastore, 1) := by decide +kernel
theorem dX9_init_160 : decode cX9_init 160 = .ok (.aload_n 0, 1) := by decide +kernel
theorem dX9_init_161 : decode cX9_init 161 = .ok (.getfield 7, 3) := by decide +kernel
theorem dX9_init_164 : decode cX9_init 164 = .ok (.bipush 6, 2) := by decide +kernel
theorem dX9_init_166 : decode cX9_init 166 = .ok (.bipush 8, 2) := by decide +kernel
theorem dX9_init_168 : decode cX9_init 168 = .ok (.iastore, 1) := by decide +kernel
theorem dX9_init_169 : decode cX9_init 169 = .ok (.aload_n 0, 1) := by decide +kernel
theorem dX9_init_170 : decode cX9_init 170 = .ok (.getfield 7, 3) := by decide +kernel
theorem dX9_init_173 : decode cX9_init 173 = .ok (.bipush 7, 2) := by decide +kernel
theorem dX9_init_175 : decode cX9_init 175 = .ok (.iconst 3, 1) := by decide +kernel
theorem dX9_init_176 : decode cX9_init 176 = .ok (.iastore, 1) := by decide +kernel
theorem dX9_init_177 : decode cX9_init 177 = .ok (.aload_n 0, 1) := by decide +kernel
theorem dX9_init_178 : decode cX9_init 178 = .ok (.getfield 7, 3) := by decide +kernel
theorem dX9_init_181 : decode cX9_init 181 = .ok (.bipush 9, 2) := by decide +kernel
theorem dX9_init_183 : decode cX9_init 183 = .ok (.bipush 20, 2) := by decide +kernel
theorem dX9_init_185 : decode cX9_init 185 = .ok (.iastore, 1) := by decide +kernel
theorem dX9_init_186 : decode cX9_init 186 = .ok (.aload_n 0, 1) := by decide +kernel
theorem dX9_init_187 : decode cX9_init 187 = .ok (.getfield 7, 3) := by decide +kernel
theorem dX9_init_190 : decode cX9_init 190 = .ok (.bipush 10, 2) := by decide +kernel
theorem dX9_init_192 : decode cX9_init 192 = .ok (.iconst 1, 1) := by decide +kernel
theorem dX9_init_193 : decode cX9_init 193 = .ok (.iastore, 1) := by decide +kernel
theorem dX9_init_194 : decode cX9_init 194 = .ok (.iconst 0, 1) := by decide +kernel
theorem dX9_init_195 : decode cX9_init 195 = .ok (.istore_n 1, 1) := by decide +kernel
theorem dX9_init_196 : decode cX9_init 196 = .ok (.iload_n 1, 1) := by decide +kernel
theorem dX9_init_197 : decode cX9_init 197 = .ok (.bipush 30, 2) := by decide +kernel
theorem dX9_init_199 : decode cX9_init 199 = .ok (.if_icmp .ge 23, 3) := by decide +kernel
theorem dX9_init_202 : decode cX9_init 202 = .ok (.aload_n 0, 1) := by decide +kernel
theorem dX9_init_203 : decode cX9_init 203 = .ok (.getfield 7, 3) := by decide +kernel
theorem dX9_init_206 : decode cX9_init 206 = .ok (.bipush 11, 2) := by decide +kernel
theorem dX9_init_208 : decode cX9_init 208 = .ok (.iconst 4, 1) := by decide +kernel
theorem dX9_init_209 : decode cX9_init 209 = .ok (.iload_n 1, 1) := by decide +kernel
theorem dX9_init_210 : decode cX9_init 210 = .ok (.imul, 1) := by decide +kernel
theorem dX9_init_211 : decode cX9_init 211 = .ok (.iadd, 1) := by decide +kernel
theorem dX9_init_212 : decode cX9_init 212 = .ok (.iconst 3, 1) := by decide +kernel
theorem dX9_init_213 : decode cX9_init 213 = .ok (.iadd, 1) := by decide +kernel
theorem dX9_init_214 : decode cX9_init 214 = .ok (.iconst (-1), 1) := by decide +kernel
theorem dX9_init_215 : decode cX9_init 215 = .ok (.iastore, 1) := by decide +kernel
theorem dX9_init_216 : decode cX9_init 216 = .ok (.iinc 1 1, 3) := by decide +kernel
theorem dX9_init_219 : decode cX9_init 219 = .ok (.goto (-23), 3) := by decide +kernel
theorem dX9_init_222 : decode cX9_init 222 = .ok (.iconst 0, 1) := by decide +kernel
theorem dX9_init_223 : decode cX9_init 223 = .ok (.istore_n 1, 1) := by decide +kernel
theorem dX9_init_224 : decode cX9_init 224 = .ok (.iload_n 1, 1) := by decide +kernel
theorem dX9_init_225 : decode cX9_init 225 = .ok (.iconst 4, 1) := by decide +kernel
theorem dX9_init_226 : decode cX9_init 226 = .ok (.if_icmp .ge 16, 3) := by decide +kernel
theorem dX9_init_229 : decode cX9_init 229 = .ok (.aload_n 0, 1) := by decide +kernel
theorem dX9_init_230 : decode cX9_init 230 = .ok (.getfield 19, 3) := by decide +kernel
theorem dX9_init_233 : decode cX9_init 233 = .ok (.iload_n 1, 1) := by decide +kernel
theorem dX9_init_234 : decode cX9_init 234 = .ok (.iconst (-1), 1) := by decide +kernel
theorem dX9_init_235 : decode cX9_init 235 = .ok (.iastore, 1) := by decide +kernel
theorem dX9_init_236 : decode cX9_init 236 = .ok (.iinc 1 1, 3) := by decide +kernel
theorem dX9_init_239 : decode cX9_init 239 = .ok (.goto (-15), 3) := by decide +kernel
theorem dX9_init_242 : decode cX9_init 242 = .ok (.return_, 1) := by decide +kernel
theorem dX9_isIn_0 : decode cX9_isIn 0 = .ok (.lload_n 0, 1) := by decide +kernel
theorem dX9_isIn_1 : decode cX9_isIn 1 = .ok (.lload_n 2, 1) := by decide +kernel
theorem dX9_isIn_2 : decode cX9_isIn 2 = .ok (.lcmp, 1) := by decide +kernel
theorem dX9_isIn_3 : decode cX9_isIn 3 = .ok (.ifCond .lt 14, 3) := by decide +kernel
theorem dX9_isIn_6 : decode cX9_isIn 6 = .ok (.lload_n 0, 1) := by decide +kernel
theorem dX9_isIn_7 : decode cX9_isIn 7 = .ok (.lload 4, 2) := by decide +kernel
theorem dX9_isIn_9 : decode cX9_isIn 9 = .ok (.lcmp, 1) := by decide +kernel
theorem dX9_isIn_10 : decode cX9_isIn 10 = .ok (.ifCond .gt 7, 3) := by decide +kernel
theorem dX9_isIn_13 : decode cX9_isIn 13 = .ok (.iconst 1, 1) := by decide +kernel
theorem dX9_isIn_14 : decode cX9_isIn 14 = .ok (.goto 4, 3) := by decide +kernel
theorem dX9_isIn_17 : decode cX9_isIn 17 = .ok (.iconst 0, 1) := by decide +kernel
theorem dX9_isIn_18 : decode cX9_isIn 18 = .ok (.ireturn, 1) := by decide +kernel
theorem dX9_orNone_0 : decode cX9_orNone 0 = .ok (.iload_n 0, 1) := by decide +kernel
theorem dX9_orNone_1 : decode cX9_orNone 1 = .ok (.ifCond .ge 8, 3) := by decide +kernel
theorem dX9_orNone_4 : decode cX9_orNone 4 = .ok (.ldc 64, 2) := by decide +kernel
theorem dX9_orNone_6 : decode cX9_orNone 6 = .ok (.goto 4, 3) := by decide +kernel
theorem dX9_orNone_9 : decode cX9_orNone 9 = .ok (.iload_n 0, 1) := by decide +kernel
theorem dX9_orNone_10 : decode cX9_orNone 10 = .ok (.ireturn, 1) := by decide +kernel
theorem dX9_within_0 : decode cX9_within 0 = .ok (.iload_n 0, 1) := by decide +kernel
theorem dX9_within_1 : decode cX9_within 1 = .ok (.ifCond .ge 7, 3) := by decide +kernel
theorem dX9_within_4 : decode cX9_within 4 = .ok (.iconst 0, 1) := by decide +kernel
theorem dX9_within_5 : decode cX9_within 5 = .ok (.goto 13, 3) := by decide +kernel
theorem dX9_within_8 : decode cX9_within 8 = .ok (.iload_n 0, 1) := by decide +kernel
theorem dX9_within_9 : decode cX9_within 9 = .ok (.iload_n 1, 1) := by decide +kernel
theorem dX9_within_10 : decode cX9_within 10 = .ok (.if_icmp .le 7, 3) := by decide +kernel
theorem dX9_within_13 : decode cX9_within 13 = .ok (.iload_n 1, 1) := by decide +kernel
theorem dX9_within_14 : decode cX9_within 14 = .ok (.goto 4, 3) := by decide +kernel
theorem dX9_within_17 : decode cX9_within 17 = .ok (.iload_n 0, 1) := by decide +kernel
theorem dX9_within_18 : decode cX9_within 18 = .ok (.ireturn, 1) := by decide +kernel
theorem dX9_becomes_0 : decode cX9_becomes 0 = .ok (.aload_n 0, 1) := by decide +kernel
theorem dX9_becomes_1 : decode cX9_becomes 1 = .ok (.getfield 7, 3) := by decide +kernel
theorem dX9_becomes_4 : decode cX9_becomes 4 = .ok (.iload_n 1, 1) := by decide +kernel
theorem dX9_becomes_5 : decode cX9_becomes 5 = .ok (.iaload, 1) := by decide +kernel
theorem dX9_becomes_6 : decode cX9_becomes 6 = .ok (.istore_n 3, 1) := by decide +kernel
theorem dX9_becomes_7 : decode cX9_becomes 7 = .ok (.aload_n 0, 1) := by decide +kernel
theorem dX9_becomes_8 : decode cX9_becomes 8 = .ok (.getfield 7, 3) := by decide +kernel
theorem dX9_becomes_11 : decode cX9_becomes 11 = .ok (.iload_n 1, 1) := by decide +kernel
theorem dX9_becomes_12 : decode cX9_becomes 12 = .ok (.iload_n 2, 1) := by decide +kernel
theorem dX9_becomes_13 : decode cX9_becomes 13 = .ok (.iastore, 1) := by decide +kernel
theorem dX9_becomes_14 : decode cX9_becomes 14 = .ok (.iload_n 3, 1) := by decide +kernel
theorem dX9_becomes_15 : decode cX9_becomes 15 = .ok (.ireturn, 1) := by decide +kernel
theorem dX9_textAt_0 : decode cX9_textAt 0 = .ok (.sipush 147, 3) := by decide +kernel
theorem dX9_textAt_3 : decode cX9_textAt 3 = .ok (.sipush 200, 3) := by decide +kernel
theorem dX9_textAt_6 : decode cX9_textAt 6 = .ok (.iload_n 1, 1) := by decide +kernel
theorem dX9_textAt_7 : decode cX9_textAt 7 = .ok (.imul, 1) := by decide +kernel
theorem dX9_textAt_8 : decode cX9_textAt 8 = .ok (.iadd, 1) := by decide +kernel
theorem dX9_textAt_9 : decode cX9_textAt 9 = .ok (.ireturn, 1) := by decide +kernel
theorem dX9_of_0 : decode cX9_of 0 = .ok (.aload_n 0, 1) := by decide +kernel
theorem dX9_of_1 : decode cX9_of 1 = .ok (.getfield 7, 3) := by decide +kernel
theorem dX9_of_4 : decode cX9_of 4 = .ok (.bipush 11, 2) := by decide +kernel
theorem dX9_of_6 : decode cX9_of 6 = .ok (.iconst 4, 1) := by decide +kernel
theorem dX9_of_7 : decode cX9_of 7 = .ok (.iload_n 1, 1) := by decide +kernel
theorem dX9_of_8 : decode cX9_of 8 = .ok (.imul, 1) := by decide +kernel
theorem dX9_of_9 : decode cX9_of 9 = .ok (.iadd, 1) := by decide +kernel
theorem dX9_of_10 : decode cX9_of 10 = .ok (.iload_n 2, 1) := by decide +kernel
theorem dX9_of_11 : decode cX9_of 11 = .ok (.iadd, 1) := by decide +kernel
theorem dX9_of_12 : decode cX9_of 12 = .ok (.iaload, 1) := by decide +kernel
theorem dX9_of_13 : decode cX9_of 13 = .ok (.ireturn, 1) := by decide +kernel
theorem dX9_sets_0 : decode cX9_sets 0 = .ok (.aload_n 0, 1) := by decide +kernel
theorem dX9_sets_1 : decode cX9_sets 1 = .ok (.getfield 7, 3) := by decide +kernel
theorem dX9_sets_4 : decode cX9_sets 4 = .ok (.bipush 11, 2) := by decide +kernel
theorem dX9_sets_6 : decode cX9_sets 6 = .ok (.iconst 4, 1) := by decide +kernel
theorem dX9_sets_7 : decode cX9_sets 7 = .ok (.iload_n 1, 1) := by decide +kernel
theorem dX9_sets_8 : decode cX9_sets 8 = .ok (.imul, 1) := by decide +kernel
theorem dX9_sets_9 : decode cX9_sets 9 = .ok (.iadd, 1) := by decide +kernel
theorem dX9_sets_10 : decode cX9_sets 10 = .ok (.iload_n 2, 1) := by decide +kernel
theorem dX9_sets_11 : decode cX9_sets 11 = .ok (.iadd, 1) := by decide +kernel
theorem dX9_sets_12 : decode cX9_sets 12 = .ok (.iload_n 3, 1) := by decide +kernel
theorem dX9_sets_13 : decode cX9_sets 13 = .ok (.iastore, 1) := by decide +kernel
theorem dX9_sets_14 : decode cX9_sets 14 = .ok (.return_, 1) := by decide +kernel
theorem dX9_isCell_0 : decode cX9_isCell 0 = .ok (.iload_n 0, 1) := by decide +kernel
theorem dX9_isCell_1 : decode cX9_isCell 1 = .ok (.ifCond .lt 13, 3) := by decide +kernel
theorem dX9_isCell_4 : decode cX9_isCell 4 = .ok (.iload_n 0, 1) := by decide +kernel
theorem dX9_isCell_5 : decode cX9_isCell 5 = .ok (.bipush 30, 2) := by decide +kernel
theorem dX9_isCell_7 : decode cX9_isCell 7 = .ok (.if_icmp .ge 7, 3) := by decide +kernel
theorem dX9_isCell_10 : decode cX9_isCell 10 = .ok (.iconst 1, 1) := by decide +kernel
theorem dX9_isCell_11 : decode cX9_isCell 11 = .ok (.goto 4, 3) := by decide +kernel
theorem dX9_isCell_14 : decode cX9_isCell 14 = .ok (.iconst 0, 1) := by decide +kernel
theorem dX9_isCell_15 : decode cX9_isCell 15 = .ok (.ireturn, 1) := by decide +kernel
theorem dX9_isHouse_0 : decode cX9_isHouse 0 = .ok (.iload_n 1, 1) := by decide +kernel
theorem dX9_isHouse_1 : decode cX9_isHouse 1 = .ok (.i2l, 1) := by decide +kernel
theorem dX9_isHouse_2 : decode cX9_isHouse 2 = .ok (.lconst 0, 1) := by decide +kernel
theorem dX9_isHouse_3 : decode cX9_isHouse 3 = .ok (.aload_n 0, 1) := by decide +kernel
theorem dX9_isHouse_4 : decode cX9_isHouse 4 = .ok (.getfield 7, 3) := by decide +kernel
theorem dX9_isHouse_7 : decode cX9_isHouse 7 = .ok (.iconst 0, 1) := by decide +kernel
theorem dX9_isHouse_8 : decode cX9_isHouse 8 = .ok (.iaload, 1) := by decide +kernel
theorem dX9_isHouse_9 : decode cX9_isHouse 9 = .ok (.iconst 1, 1) := by decide +kernel
theorem dX9_isHouse_10 : decode cX9_isHouse 10 = .ok (.isub, 1) := by decide +kernel
theorem dX9_isHouse_11 : decode cX9_isHouse 11 = .ok (.i2l, 1) := by decide +kernel
theorem dX9_isHouse_12 : decode cX9_isHouse 12 = .ok (.invokestatic 65, 3) := by decide +kernel
theorem dX9_isHouse_15 : decode cX9_isHouse 15 = .ok (.ireturn, 1) := by decide +kernel
theorem dX9_isText_0 : decode cX9_isText 0 = .ok (.iload_n 1, 1) := by decide +kernel
theorem dX9_isText_1 : decode cX9_isText 1 = .ok (.i2l, 1) := by decide +kernel
theorem dX9_isText_2 : decode cX9_isText 2 = .ok (.lconst 0, 1) := by decide +kernel
theorem dX9_isText_3 : decode cX9_isText 3 = .ok (.aload_n 0, 1) := by decide +kernel
theorem dX9_isText_4 : decode cX9_isText 4 = .ok (.getfield 7, 3) := by decide +kernel
theorem dX9_isText_7 : decode cX9_isText 7 = .ok (.iconst 1, 1) := by decide +kernel
theorem dX9_isText_8 : decode cX9_isText 8 = .ok (.iaload, 1) := by decide +kernel
theorem dX9_isText_9 : decode cX9_isText 9 = .ok (.iconst 1, 1) := by decide +kernel
theorem dX9_isText_10 : decode cX9_isText 10 = .ok (.isub, 1) := by decide +kernel
theorem dX9_isText_11 : decode cX9_isText 11 = .ok (.i2l, 1) := by decide +kernel
theorem dX9_isText_12 : decode cX9_isText 12 = .ok (.invokestatic 65, 3) := by decide +kernel
theorem dX9_isText_15 : decode cX9_isText 15 = .ok (.ireturn, 1) := by decide +kernel
theorem dX9_drawn_0 : decode cX9_drawn 0 = .ok (.aload_n 0, 1) := by decide +kernel
theorem dX9_drawn_1 : decode cX9_drawn 1 = .ok (.getfield 7, 3) := by decide +kernel
theorem dX9_drawn_4 : decode cX9_drawn 4 = .ok (.iconst 4, 1) := by decide +kernel
theorem dX9_drawn_5 : decode cX9_drawn 5 = .ok (.aload_n 0, 1) := by decide +kernel
theorem dX9_drawn_6 : decode cX9_drawn 6 = .ok (.getfield 7, 3) := by decide +kernel
theorem dX9_drawn_9 : decode cX9_drawn 9 = .ok (.iconst 4, 1) := by decide +kernel
theorem dX9_drawn_10 : decode cX9_drawn 10 = .ok (.iaload, 1) := by decide +kernel
theorem dX9_drawn_11 : decode cX9_drawn 11 = .ok (.ldc 69, 2) := by decide +kernel
theorem dX9_drawn_13 : decode cX9_drawn 13 = .ok (.imul, 1) := by decide +kernel
theorem dX9_drawn_14 : decode cX9_drawn 14 = .ok (.sipush 12345, 3) := by decide +kernel
theorem dX9_drawn_17 : decode cX9_drawn 17 = .ok (.iadd, 1) := by decide +kernel
theorem dX9_drawn_18 : decode cX9_drawn 18 = .ok (.iastore, 1) := by decide +kernel
theorem dX9_drawn_19 : decode cX9_drawn 19 = .ok (.aload_n 0, 1) := by decide +kernel
theorem dX9_drawn_20 : decode cX9_drawn 20 = .ok (.getfield 7, 3) := by decide +kernel
theorem dX9_drawn_23 : decode cX9_drawn 23 = .ok (.iconst 4, 1) := by decide +kernel
theorem dX9_drawn_24 : decode cX9_drawn 24 = .ok (.iaload, 1) := by decide +kernel
theorem dX9_drawn_25 : decode cX9_drawn 25 = .ok (.bipush 8, 2) := by decide +kernel
theorem dX9_drawn_27 : decode cX9_drawn 27 = .ok (.iushr, 1) := by decide +kernel
theorem dX9_drawn_28 : decode cX9_drawn 28 = .ok (.ireturn, 1) := by decide +kernel
theorem dX9_ones_0 : decode cX9_ones 0 = .ok (.iconst 0, 1) := by decide +kernel
theorem dX9_ones_1 : decode cX9_ones 1 = .ok (.istore_n 1, 1) := by decide +kernel
theorem dX9_ones_2 : decode cX9_ones 2 = .ok (.iconst 0, 1) := by decide +kernel
theorem dX9_ones_3 : decode cX9_ones 3 = .ok (.istore_n 2, 1) := by decide +kernel
theorem dX9_ones_4 : decode cX9_ones 4 = .ok (.iload_n 2, 1) := by decide +kernel
theorem dX9_ones_5 : decode cX9_ones 5 = .ok (.bipush 30, 2) := by decide +kernel
theorem dX9_ones_7 : decode cX9_ones 7 = .ok (.if_icmp .ge 17, 3) := by decide +kernel
theorem dX9_ones_10 : decode cX9_ones 10 = .ok (.iload_n 1, 1) := by decide +kernel
theorem dX9_ones_11 : decode cX9_ones 11 = .ok (.iload_n 0, 1) := by decide +kernel
theorem dX9_ones_12 : decode cX9_ones 12 = .ok (.iload_n 2, 1) := by decide +kernel
theorem dX9_ones_13 : decode cX9_ones 13 = .ok (.ishr, 1) := by decide +kernel
theorem dX9_ones_14 : decode cX9_ones 14 = .ok (.iconst 1, 1) := by decide +kernel
theorem dX9_ones_15 : decode cX9_ones 15 = .ok (.iand, 1) := by decide +kernel
theorem dX9_ones_16 : decode cX9_ones 16 = .ok (.iadd, 1) := by decide +kernel
theorem dX9_ones_17 : decode cX9_ones 17 = .ok (.istore_n 1, 1) := by decide +kernel
theorem dX9_ones_18 : decode cX9_ones 18 = .ok (.iinc 2 1, 3) := by decide +kernel
theorem dX9_ones_21 : decode cX9_ones 21 = .ok (.goto (-17), 3) := by decide +kernel
theorem dX9_ones_24 : decode cX9_ones 24 = .ok (.iload_n 1, 1) := by decide +kernel
theorem dX9_ones_25 : decode cX9_ones 25 = .ok (.ireturn, 1) := by decide +kernel
theorem dX9_top_0 : decode cX9_top 0 = .ok (.aload_n 0, 1) := by decide +kernel
theorem dX9_top_1 : decode cX9_top 1 = .ok (.iload_n 1, 1) := by decide +kernel
theorem dX9_top_2 : decode cX9_top 2 = .ok (.iconst 1, 1) := by decide +kernel
theorem dX9_top_3 : decode cX9_top 3 = .ok (.invokevirtual 70, 3) := by decide +kernel
theorem dX9_top_6 : decode cX9_top 6 = .ok (.istore_n 2, 1) := by decide +kernel
theorem dX9_top_7 : decode cX9_top 7 = .ok (.aload_n 0, 1) := by decide +kernel
theorem dX9_top_8 : decode cX9_top 8 = .ok (.iload_n 1, 1) := by decide +kernel
theorem dX9_top_9 : decode cX9_top 9 = .ok (.iconst 0, 1) := by decide +kernel
theorem dX9_top_10 : decode cX9_top 10 = .ok (.invokevirtual 70, 3) := by decide +kernel
theorem dX9_top_13 : decode cX9_top 13 = .ok (.tableswitch 53 2 5 #[31, 35, 39, 43], 31) := by decide +kernel
theorem dX9_top_44 : decode cX9_top 44 = .ok (.iload_n 2, 1) := by decide +kernel
theorem dX9_top_45 : decode cX9_top 45 = .ok (.iconst 2, 1) := by decide +kernel
theorem dX9_top_46 : decode cX9_top 46 = .ok (.iadd, 1) := by decide +kernel
theorem dX9_top_47 : decode cX9_top 47 = .ok (.ireturn, 1) := by decide +kernel
theorem dX9_top_48 : decode cX9_top 48 = .ok (.iload_n 2, 1) := by decide +kernel
theorem dX9_top_49 : decode cX9_top 49 = .ok (.iconst 1, 1) := by decide +kernel
theorem dX9_top_50 : decode cX9_top 50 = .ok (.iadd, 1) := by decide +kernel
theorem dX9_top_51 : decode cX9_top 51 = .ok (.ireturn, 1) := by decide +kernel
theorem dX9_top_52 : decode cX9_top 52 = .ok (.iload_n 2, 1) := by decide +kernel
theorem dX9_top_53 : decode cX9_top 53 = .ok (.iconst 3, 1) := by decide +kernel
theorem dX9_top_54 : decode cX9_top 54 = .ok (.iadd, 1) := by decide +kernel
theorem dX9_top_55 : decode cX9_top 55 = .ok (.ireturn, 1) := by decide +kernel
theorem dX9_top_56 : decode cX9_top 56 = .ok (.iload_n 2, 1) := by decide +kernel
theorem dX9_top_57 : decode cX9_top 57 = .ok (.aload_n 0, 1) := by decide +kernel
theorem dX9_top_58 : decode cX9_top 58 = .ok (.getfield 7, 3) := by decide +kernel
theorem dX9_top_61 : decode cX9_top 61 = .ok (.bipush 10, 2) := by decide +kernel
theorem dX9_top_63 : decode cX9_top 63 = .ok (.iaload, 1) := by decide +kernel
theorem dX9_top_64 : decode cX9_top 64 = .ok (.iadd, 1) := by decide +kernel
theorem dX9_top_65 : decode cX9_top 65 = .ok (.ireturn, 1) := by decide +kernel
theorem dX9_top_66 : decode cX9_top 66 = .ok (.iload_n 2, 1) := by decide +kernel
theorem dX9_top_67 : decode cX9_top 67 = .ok (.ireturn, 1) := by decide +kernel
theorem dX9_room_0 : decode cX9_room 0 = .ok (.bipush 10, 2) := by decide +kernel
theorem dX9_room_2 : decode cX9_room 2 = .ok (.istore_n 2, 1) := by decide +kernel
theorem dX9_room_3 : decode cX9_room 3 = .ok (.aload_n 0, 1) := by decide +kernel
theorem dX9_room_4 : decode cX9_room 4 = .ok (.iconst 2, 1) := by decide +kernel
theorem dX9_room_5 : decode cX9_room 5 = .ok (.invokevirtual 74, 3) := by decide +kernel
theorem dX9_room_8 : decode cX9_room 8 = .ok (.istore_n 3, 1) := by decide +kernel
theorem dX9_room_9 : decode cX9_room 9 = .ok (.iload_n 3, 1) := by decide +kernel
theorem dX9_room_10 : decode cX9_room 10 = .ok (.ifCond .lt 39, 3) := by decide +kernel
theorem dX9_room_13 : decode cX9_room 13 = .ok (.aload_n 0, 1) := by decide +kernel
theorem dX9_room_14 : decode cX9_room 14 = .ok (.getfield 49, 3) := by decide +kernel
theorem dX9_room_17 : decode cX9_room 17 = .ok (.bipush 116, 2) := by decide +kernel
theorem dX9_room_19 : decode cX9_room 19 = .ok (.aload_n 0, 1) := by decide +kernel
theorem dX9_room_20 : decode cX9_room 20 = .ok (.iload_n 1, 1) := by decide +kernel
theorem dX9_room_21 : decode cX9_room 21 = .ok (.invokevirtual 78, 3) := by decide +kernel
theorem dX9_room_24 : decode cX9_room 24 = .ok (.iastore, 1) := by decide +kernel
theorem dX9_room_25 : decode cX9_room 25 = .ok (.aload_n 0, 1) := by decide +kernel
theorem dX9_room_26 : decode cX9_room 26 = .ok (.getfield 49, 3) := by decide +kernel
theorem dX9_room_29 : decode cX9_room 29 = .ok (.bipush 104, 2) := by decide +kernel
theorem dX9_room_31 : decode cX9_room 31 = .ok (.aload_n 0, 1) := by decide +kernel
theorem dX9_room_32 : decode cX9_room 32 = .ok (.iload_n 1, 1) := by decide +kernel
theorem dX9_room_33 : decode cX9_room 33 = .ok (.iconst 1, 1) := by decide +kernel
theorem dX9_room_34 : decode cX9_room 34 = .ok (.invokevirtual 70, 3) := by decide +kernel
theorem dX9_room_37 : decode cX9_room 37 = .ok (.iastore, 1) := by decide +kernel
theorem dX9_room_38 : decode cX9_room 38 = .ok (.aload_n 0, 1) := by decide +kernel
theorem dX9_room_39 : decode cX9_room 39 = .ok (.iload_n 3, 1) := by decide +kernel
theorem dX9_room_40 : decode cX9_room 40 = .ok (.invokevirtual 81, 3) := by decide +kernel
theorem dX9_room_43 : decode cX9_room 43 = .ok (.bipush 99, 2) := by decide +kernel
theorem dX9_room_45 : decode cX9_room 45 = .ok (.invokestatic 84, 3) := by decide +kernel
theorem dX9_room_48 : decode cX9_room 48 = .ok (.istore_n 2, 1) := by decide +kernel
theorem dX9_room_49 : decode cX9_room 49 = .ok (.iload_n 2, 1) := by decide +kernel
theorem dX9_room_50 : decode cX9_room 50 = .ok (.aload_n 0, 1) := by decide +kernel
theorem dX9_room_51 : decode cX9_room 51 = .ok (.iload_n 1, 1) := by decide +kernel
theorem dX9_room_52 : decode cX9_room 52 = .ok (.iconst 2, 1) := by decide +kernel
theorem dX9_room_53 : decode cX9_room 53 = .ok (.invokevirtual 70, 3) := by decide +kernel
theorem dX9_room_56 : decode cX9_room 56 = .ok (.bipush 10, 2) := by decide +kernel
theorem dX9_room_58 : decode cX9_room 58 = .ok (.idiv, 1) := by decide +kernel
theorem dX9_room_59 : decode cX9_room 59 = .ok (.isub, 1) := by decide +kernel
theorem dX9_room_60 : decode cX9_room 60 = .ok (.bipush 99, 2) := by decide +kernel
theorem dX9_room_62 : decode cX9_room 62 = .ok (.invokestatic 84, 3) := by decide +kernel
theorem dX9_room_65 : decode cX9_room 65 = .ok (.istore 4, 2) := by decide +kernel
theorem dX9_room_67 : decode cX9_room 67 = .ok (.aload_n 0, 1) := by decide +kernel
theorem dX9_room_68 : decode cX9_room 68 = .ok (.iload_n 1, 1) := by decide +kernel
theorem dX9_room_69 : decode cX9_room 69 = .ok (.iconst 0, 1) := by decide +kernel
theorem dX9_room_70 : decode cX9_room 70 = .ok (.invokevirtual 70, 3) := by decide +kernel
theorem dX9_room_73 : decode cX9_room 73 = .ok (.tableswitch 54 1 5 #[35, 43, 38, 43, 52], 35) := by decide +kernel
theorem dX9_room_108 : decode cX9_room 108 = .ok (.iload 4, 2) := by decide +kernel
theorem dX9_room_110 : decode cX9_room 110 = .ok (.ireturn, 1) := by decide +kernel
theorem dX9_room_111 : decode cX9_room 111 = .ok (.iload 4, 2) := by decide +kernel
theorem dX9_room_113 : decode cX9_room 113 = .ok (.iconst 2, 1) := by decide +kernel
theorem dX9_room_114 : decode cX9_room 114 = .ok (.idiv, 1) := by decide +kernel
theorem dX9_room_115 : decode cX9_room 115 = .ok (.ireturn, 1) := by decide +kernel
theorem dX9_room_116 : decode cX9_room 116 = .ok (.iload_n 2, 1) := by decide +kernel
theorem dX9_room_117 : decode cX9_room 117 = .ok (.iconst 4, 1) := by decide +kernel
theorem dX9_room_118 : decode cX9_room 118 = .ok (.isub, 1) := by decide +kernel
theorem dX9_room_119 : decode cX9_room 119 = .ok (.bipush 99, 2) := by decide +kernel
theorem dX9_room_121 : decode cX9_room 121 = .ok (.invokestatic 84, 3) := by decide +kernel
theorem dX9_room_124 : decode cX9_room 124 = .ok (.ireturn, 1) := by decide +kernel
theorem dX9_room_125 : decode cX9_room 125 = .ok (.iconst 1, 1) := by decide +kernel
theorem dX9_room_126 : decode cX9_room 126 = .ok (.ireturn, 1) := by decide +kernel
theorem dX9_room_127 : decode cX9_room 127 = .ok (.iload_n 2, 1) := by decide +kernel
theorem dX9_room_128 : decode cX9_room 128 = .ok (.ireturn, 1) := by decide +kernel
theorem dX9_worth_0 : decode cX9_worth 0 = .ok (.aload_n 0, 1) := by decide +kernel
theorem dX9_worth_1 : decode cX9_worth 1 = .ok (.iload_n 1, 1) := by decide +kernel
theorem dX9_worth_2 : decode cX9_worth 2 = .ok (.iconst 1, 1) := by decide +kernel
theorem dX9_worth_3 : decode cX9_worth 3 = .ok (.invokevirtual 70, 3) := by decide +kernel
theorem dX9_worth_6 : decode cX9_worth 6 = .ok (.istore_n 2, 1) := by decide +kernel
theorem dX9_worth_7 : decode cX9_worth 7 = .ok (.aload_n 0, 1) := by decide +kernel
theorem dX9_worth_8 : decode cX9_worth 8 = .ok (.iload_n 1, 1) := by decide +kernel
theorem dX9_worth_9 : decode cX9_worth 9 = .ok (.iconst 0, 1) := by decide +kernel
theorem dX9_worth_10 : decode cX9_worth 10 = .ok (.invokevirtual 70, 3) := by decide +kernel
theorem dX9_worth_13 : decode cX9_worth 13 = .ok (.tableswitch 58 1 5 #[35, 39, 44, 50, 55], 35) := by decide +kernel
theorem dX9_worth_48 : decode cX9_worth 48 = .ok (.iload_n 2, 1) := by decide +kernel
theorem dX9_worth_49 : decode cX9_worth 49 = .ok (.iconst 3, 1) := by decide +kernel
theorem dX9_worth_50 : decode cX9_worth 50 = .ok (.iadd, 1) := by decide +kernel
theorem dX9_worth_51 : decode cX9_worth 51 = .ok (.ireturn, 1) := by decide +kernel
theorem dX9_worth_52 : decode cX9_worth 52 = .ok (.bipush 20, 2) := by decide +kernel
theorem dX9_worth_54 : decode cX9_worth 54 = .ok (.iload_n 2, 1) := by decide +kernel
theorem dX9_worth_55 : decode cX9_worth 55 = .ok (.isub, 1) := by decide +kernel
theorem dX9_worth_56 : decode cX9_worth 56 = .ok (.ireturn, 1) := by decide +kernel
theorem dX9_worth_57 : decode cX9_worth 57 = .ok (.iconst 2, 1) := by decide +kernel
theorem dX9_worth_58 : decode cX9_worth 58 = .ok (.iload_n 2, 1) := by decide +kernel
theorem dX9_worth_59 : decode cX9_worth 59 = .ok (.iconst 3, 1) := by decide +kernel
theorem dX9_worth_60 : decode cX9_worth 60 = .ok (.iadd, 1) := by decide +kernel
theorem dX9_worth_61 : decode cX9_worth 61 = .ok (.imul, 1) := by decide +kernel
theorem dX9_worth_62 : decode cX9_worth 62 = .ok (.ireturn, 1) := by decide +kernel
theorem dX9_worth_63 : decode cX9_worth 63 = .ok (.bipush 29, 2) := by decide +kernel
theorem dX9_worth_65 : decode cX9_worth 65 = .ok (.iload_n 2, 1) := by decide +kernel
theorem dX9_worth_66 : decode cX9_worth 66 = .ok (.isub, 1) := by decide +kernel
theorem dX9_worth_67 : decode cX9_worth 67 = .ok (.ireturn, 1) := by decide +kernel
theorem dX9_worth_68 : decode cX9_worth 68 = .ok (.bipush 50, 2) := by decide +kernel
theorem dX9_worth_70 : decode cX9_worth 70 = .ok (.ireturn, 1) := by decide +kernel
theorem dX9_worth_71 : decode cX9_worth 71 = .ok (.iload_n 2, 1) := by decide +kernel
theorem dX9_worth_72 : decode cX9_worth 72 = .ok (.ireturn, 1) := by decide +kernel
theorem dX9_level_0 : decode cX9_level 0 = .ok (.aload_n 0, 1) := by decide +kernel
theorem dX9_level_1 : decode cX9_level 1 = .ok (.getfield 7, 3) := by decide +kernel
theorem dX9_level_4 : decode cX9_level 4 = .ok (.iconst 2, 1) := by decide +kernel
theorem dX9_level_5 : decode cX9_level 5 = .ok (.iaload, 1) := by decide +kernel
theorem dX9_level_6 : decode cX9_level 6 = .ok (.iload_n 1, 1) := by decide +kernel
theorem dX9_level_7 : decode cX9_level 7 = .ok (.iadd, 1) := by decide +kernel
theorem dX9_level_8 : decode cX9_level 8 = .ok (.istore_n 2, 1) := by decide +kernel
theorem dX9_level_9 : decode cX9_level 9 = .ok (.aload_n 0, 1) := by decide +kernel
theorem dX9_level_10 : decode cX9_level 10 = .ok (.iconst 0, 1) := by decide +kernel
theorem dX9_level_11 : decode cX9_level 11 = .ok (.invokevirtual 74, 3) := by decide +kernel
theorem dX9_level_14 : decode cX9_level 14 = .ok (.istore_n 3, 1) := by decide +kernel
theorem dX9_level_15 : decode cX9_level 15 = .ok (.iload_n 3, 1) := by decide +kernel
theorem dX9_level_16 : decode cX9_level 16 = .ok (.ifCond .lt 50, 3) := by decide +kernel
theorem dX9_level_19 : decode cX9_level 19 = .ok (.aload_n 0, 1) := by decide +kernel
theorem dX9_level_20 : decode cX9_level 20 = .ok (.getfield 49, 3) := by decide +kernel
theorem dX9_level_23 : decode cX9_level 23 = .ok (.bipush 104, 2) := by decide +kernel
theorem dX9_level_25 : decode cX9_level 25 = .ok (.iload_n 2, 1) := by decide +kernel
theorem dX9_level_26 : decode cX9_level 26 = .ok (.bipush 24, 2) := by decide +kernel
theorem dX9_level_28 : decode cX9_level 28 = .ok (.irem, 1) := by decide +kernel
theorem dX9_level_29 : decode cX9_level 29 = .ok (.iastore, 1) := by decide +kernel
theorem dX9_level_30 : decode cX9_level 30 = .ok (.aload_n 0, 1) := by decide +kernel
theorem dX9_level_31 : decode cX9_level 31 = .ok (.getfield 49, 3) := by decide +kernel
theorem dX9_level_34 : decode cX9_level 34 = .ok (.bipush 100, 2) := by decide +kernel
theorem dX9_level_36 : decode cX9_level 36 = .ok (.iload_n 2, 1) := by decide +kernel
theorem dX9_level_37 : decode cX9_level 37 = .ok (.bipush 24, 2) := by decide +kernel
theorem dX9_level_39 : decode cX9_level 39 = .ok (.idiv, 1) := by decide +kernel
theorem dX9_level_40 : decode cX9_level 40 = .ok (.iastore, 1) := by decide +kernel
theorem dX9_level_41 : decode cX9_level 41 = .ok (.aload_n 0, 1) := by decide +kernel
theorem dX9_level_42 : decode cX9_level 42 = .ok (.getfield 49, 3) := by decide +kernel
theorem dX9_level_45 : decode cX9_level 45 = .ok (.bipush 115, 2) := by decide +kernel
theorem dX9_level_47 : decode cX9_level 47 = .ok (.aload_n 0, 1) := by decide +kernel
theorem dX9_level_48 : decode cX9_level 48 = .ok (.getfield 7, 3) := by decide +kernel
theorem dX9_level_51 : decode cX9_level 51 = .ok (.bipush 8, 2) := by decide +kernel
theorem dX9_level_53 : decode cX9_level 53 = .ok (.iaload, 1) := by decide +kernel
theorem dX9_level_54 : decode cX9_level 54 = .ok (.iastore, 1) := by decide +kernel
theorem dX9_level_55 : decode cX9_level 55 = .ok (.aload_n 0, 1) := by decide +kernel
theorem dX9_level_56 : decode cX9_level 56 = .ok (.iload_n 3, 1) := by decide +kernel
theorem dX9_level_57 : decode cX9_level 57 = .ok (.invokevirtual 81, 3) := by decide +kernel
theorem dX9_level_60 : decode cX9_level 60 = .ok (.bipush 40, 2) := by decide +kernel
theorem dX9_level_62 : decode cX9_level 62 = .ok (.invokestatic 84, 3) := by decide +kernel
theorem dX9_level_65 : decode cX9_level 65 = .ok (.ireturn, 1) := by decide +kernel
theorem dX9_level_66 : decode cX9_level 66 = .ok (.iload_n 2, 1) := by decide +kernel
theorem dX9_level_67 : decode cX9_level 67 = .ok (.bipush 12, 2) := by decide +kernel
theorem dX9_level_69 : decode cX9_level 69 = .ok (.irem, 1) := by decide +kernel
theorem dX9_level_70 : decode cX9_level 70 = .ok (.bipush 6, 2) := by decide +kernel
theorem dX9_level_72 : decode cX9_level 72 = .ok (.if_icmp .le 13, 3) := by decide +kernel
theorem dX9_level_75 : decode cX9_level 75 = .ok (.bipush 12, 2) := by decide +kernel
theorem dX9_level_77 : decode cX9_level 77 = .ok (.iload_n 2, 1) := by decide +kernel
theorem dX9_level_78 : decode cX9_level 78 = .ok (.bipush 12, 2) := by decide +kernel
theorem dX9_level_80 : decode cX9_level 80 = .ok (.irem, 1) := by decide +kernel
theorem dX9_level_81 : decode cX9_level 81 = .ok (.isub, 1) := by decide +kernel
theorem dX9_level_82 : decode cX9_level 82 = .ok (.goto 7, 3) := by decide +kernel
theorem dX9_level_85 : decode cX9_level 85 = .ok (.iload_n 2, 1) := by decide +kernel
theorem dX9_level_86 : decode cX9_level 86 = .ok (.bipush 12, 2) := by decide +kernel
theorem dX9_level_88 : decode cX9_level 88 = .ok (.irem, 1) := by decide +kernel
theorem dX9_level_89 : decode cX9_level 89 = .ok (.istore 4, 2) := by decide +kernel
theorem dX9_level_91 : decode cX9_level 91 = .ok (.iload_n 2, 1) := by decide +kernel
theorem dX9_level_92 : decode cX9_level 92 = .ok (.bipush 24, 2) := by decide +kernel
theorem dX9_level_94 : decode cX9_level 94 = .ok (.idiv, 1) := by decide +kernel
theorem dX9_level_95 : decode cX9_level 95 = .ok (.bipush 15, 2) := by decide +kernel
theorem dX9_level_97 : decode cX9_level 97 = .ok (.irem, 1) := by decide +kernel
theorem dX9_level_98 : decode cX9_level 98 = .ok (.ifCond .ne 13, 3) := by decide +kernel
theorem dX9_level_101 : decode cX9_level 101 = .ok (.aload_n 0, 1) := by decide +kernel
theorem dX9_level_102 : decode cX9_level 102 = .ok (.getfield 7, 3) := by decide +kernel
theorem dX9_level_105 : decode cX9_level 105 = .ok (.bipush 7, 2) := by decide +kernel
theorem dX9_level_107 : decode cX9_level 107 = .ok (.iaload, 1) := by decide +kernel
theorem dX9_level_108 : decode cX9_level 108 = .ok (.goto 4, 3) := by decide +kernel
theorem dX9_level_111 : decode cX9_level 111 = .ok (.iconst 0, 1) := by decide +kernel
theorem dX9_level_112 : decode cX9_level 112 = .ok (.istore 5, 2) := by decide +kernel
theorem dX9_level_114 : decode cX9_level 114 = .ok (.aload_n 0, 1) := by decide +kernel
theorem dX9_level_115 : decode cX9_level 115 = .ok (.getfield 7, 3) := by decide +kernel
theorem dX9_level_118 : decode cX9_level 118 = .ok (.iconst 5, 1) := by decide +kernel
theorem dX9_level_119 : decode cX9_level 119 = .ok (.iaload, 1) := by decide +kernel
theorem dX9_level_120 : decode cX9_level 120 = .ok (.bipush 6, 2) := by decide +kernel
theorem dX9_level_122 : decode cX9_level 122 = .ok (.iload 4, 2) := by decide +kernel
theorem dX9_level_124 : decode cX9_level 124 = .ok (.isub, 1) := by decide +kernel
theorem dX9_level_125 : decode cX9_level 125 = .ok (.imul, 1) := by decide +kernel
theorem dX9_level_126 : decode cX9_level 126 = .ok (.aload_n 0, 1) := by decide +kernel
theorem dX9_level_127 : decode cX9_level 127 = .ok (.getfield 7, 3) := by decide +kernel
theorem dX9_level_130 : decode cX9_level 130 = .ok (.bipush 6, 2) := by decide +kernel
theorem dX9_level_132 : decode cX9_level 132 = .ok (.iaload, 1) := by decide +kernel
theorem dX9_level_133 : decode cX9_level 133 = .ok (.iload 4, 2) := by decide +kernel
theorem dX9_level_135 : decode cX9_level 135 = .ok (.imul, 1) := by decide +kernel
theorem dX9_level_136 : decode cX9_level 136 = .ok (.iadd, 1) := by decide +kernel
theorem dX9_level_137 : decode cX9_level 137 = .ok (.bipush 6, 2) := by decide +kernel
theorem dX9_level_139 : decode cX9_level 139 = .ok (.idiv, 1) := by decide +kernel
theorem dX9_level_140 : decode cX9_level 140 = .ok (.iload 5, 2) := by decide +kernel
theorem dX9_level_142 : decode cX9_level 142 = .ok (.iadd, 1) := by decide +kernel
theorem dX9_level_143 : decode cX9_level 143 = .ok (.aload_n 0, 1) := by decide +kernel
theorem dX9_level_144 : decode cX9_level 144 = .ok (.getfield 7, 3) := by decide +kernel
theorem dX9_level_147 : decode cX9_level 147 = .ok (.bipush 8, 2) := by decide +kernel
theorem dX9_level_149 : decode cX9_level 149 = .ok (.iaload, 1) := by decide +kernel
theorem dX9_level_150 : decode cX9_level 150 = .ok (.iadd, 1) := by decide +kernel
theorem dX9_level_151 : decode cX9_level 151 = .ok (.ireturn, 1) := by decide +kernel
theorem dX9_dry_0 : decode cX9_dry 0 = .ok (.aload_n 0, 1) := by decide +kernel
theorem dX9_dry_1 : decode cX9_dry 1 = .ok (.iload_n 1, 1) := by decide +kernel
theorem dX9_dry_2 : decode cX9_dry 2 = .ok (.invokevirtual 87, 3) := by decide +kernel
theorem dX9_dry_5 : decode cX9_dry 5 = .ok (.istore_n 2, 1) := by decide +kernel
theorem dX9_dry_6 : decode cX9_dry 6 = .ok (.iconst 0, 1) := by decide +kernel
theorem dX9_dry_7 : decode cX9_dry 7 = .ok (.istore_n 3, 1) := by decide +kernel
theorem dX9_dry_8 : decode cX9_dry 8 = .ok (.iconst 0, 1) := by decide +kernel
theorem dX9_dry_9 : decode cX9_dry 9 = .ok (.istore 4, 2) := by decide +kernel
theorem dX9_dry_11 : decode cX9_dry 11 = .ok (.iload 4, 2) := by decide +kernel
theorem dX9_dry_13 : decode cX9_dry 13 = .ok (.bipush 30, 2) := by decide +kernel
theorem dX9_dry_15 : decode cX9_dry 15 = .ok (.if_icmp .ge 30, 3) := by decide +kernel
theorem dX9_dry_18 : decode cX9_dry 18 = .ok (.iload_n 3, 1) := by decide +kernel
theorem dX9_dry_19 : decode cX9_dry 19 = .ok (.aload_n 0, 1) := by decide +kernel
theorem dX9_dry_20 : decode cX9_dry 20 = .ok (.iload 4, 2) := by decide +kernel
theorem dX9_dry_22 : decode cX9_dry 22 = .ok (.invokevirtual 78, 3) := by decide +kernel
theorem dX9_dry_25 : decode cX9_dry 25 = .ok (.iload_n 2, 1) := by decide +kernel
theorem dX9_dry_26 : decode cX9_dry 26 = .ok (.if_icmp .le 10, 3) := by decide +kernel
theorem dX9_dry_29 : decode cX9_dry 29 = .ok (.iconst 1, 1) := by decide +kernel
theorem dX9_dry_30 : decode cX9_dry 30 = .ok (.iload 4, 2) := by decide +kernel
theorem dX9_dry_32 : decode cX9_dry 32 = .ok (.ishl, 1) := by decide +kernel
theorem dX9_dry_33 : decode cX9_dry 33 = .ok (.goto 4, 3) := by decide +kernel
theorem dX9_dry_36 : decode cX9_dry 36 = .ok (.iconst 0, 1) := by decide +kernel
theorem dX9_dry_37 : decode cX9_dry 37 = .ok (.ior, 1) := by decide +kernel
theorem dX9_dry_38 : decode cX9_dry 38 = .ok (.istore_n 3, 1) := by decide +kernel
theorem dX9_dry_39 : decode cX9_dry 39 = .ok (.iinc 4 1, 3) := by decide +kernel
theorem dX9_dry_42 : decode cX9_dry 42 = .ok (.goto (-31), 3) := by decide +kernel
theorem dX9_dry_45 : decode cX9_dry 45 = .ok (.iload_n 3, 1) := by decide +kernel
theorem dX9_dry_46 : decode cX9_dry 46 = .ok (.ireturn, 1) := by decide +kernel
theorem dX9_land_0 : decode cX9_land 0 = .ok (.iload_n 1, 1) := by decide +kernel
theorem dX9_land_1 : decode cX9_land 1 = .ok (.invokestatic 90, 3) := by decide +kernel
theorem dX9_land_4 : decode cX9_land 4 = .ok (.ifCond .eq 27, 3) := by decide +kernel
theorem dX9_land_7 : decode cX9_land 7 = .ok (.iload_n 2, 1) := by decide +kernel
theorem dX9_land_8 : decode cX9_land 8 = .ok (.i2l, 1) := by decide +kernel
theorem dX9_land_9 : decode cX9_land 9 = .ok (.lconst 0, 1) := by decide +kernel
theorem dX9_land_10 : decode cX9_land 10 = .ok (.ldc2_w 94, 3) := by decide +kernel
theorem dX9_land_13 : decode cX9_land 13 = .ok (.invokestatic 65, 3) := by decide +kernel
theorem dX9_land_16 : decode cX9_land 16 = .ok (.ifCond .eq 15, 3) := by decide +kernel
theorem dX9_land_19 : decode cX9_land 19 = .ok (.iload_n 3, 1) := by decide +kernel
theorem dX9_land_20 : decode cX9_land 20 = .ok (.i2l, 1) := by decide +kernel
theorem dX9_land_21 : decode cX9_land 21 = .ok (.lconst 0, 1) := by decide +kernel
theorem dX9_land_22 : decode cX9_land 22 = .ok (.ldc2_w 96, 3) := by decide +kernel
theorem dX9_land_25 : decode cX9_land 25 = .ok (.invokestatic 65, 3) := by decide +kernel
theorem dX9_land_28 : decode cX9_land 28 = .ok (.ifCond .ne 6, 3) := by decide +kernel
theorem dX9_land_31 : decode cX9_land 31 = .ok (.ldc 98, 2) := by decide +kernel
theorem dX9_land_33 : decode cX9_land 33 = .ok (.ireturn, 1) := by decide +kernel
theorem dX9_land_34 : decode cX9_land 34 = .ok (.aload_n 0, 1) := by decide +kernel
theorem dX9_land_35 : decode cX9_land 35 = .ok (.iload_n 1, 1) := by decide +kernel
theorem dX9_land_36 : decode cX9_land 36 = .ok (.iconst 1, 1) := by decide +kernel
theorem dX9_land_37 : decode cX9_land 37 = .ok (.iload_n 3, 1) := by decide +kernel
theorem dX9_land_38 : decode cX9_land 38 = .ok (.invokevirtual 99, 3) := by decide +kernel
theorem dX9_land_41 : decode cX9_land 41 = .ok (.aload_n 0, 1) := by decide +kernel
theorem dX9_land_42 : decode cX9_land 42 = .ok (.bipush 11, 2) := by decide +kernel
theorem dX9_land_44 : decode cX9_land 44 = .ok (.iconst 4, 1) := by decide +kernel
theorem dX9_land_45 : decode cX9_land 45 = .ok (.iload_n 1, 1) := by decide +kernel
theorem dX9_land_46 : decode cX9_land 46 = .ok (.imul, 1) := by decide +kernel
theorem dX9_land_47 : decode cX9_land 47 = .ok (.iadd, 1) := by decide +kernel
theorem dX9_land_48 : decode cX9_land 48 = .ok (.iload_n 2, 1) := by decide +kernel
theorem dX9_land_49 : decode cX9_land 49 = .ok (.invokevirtual 103, 3) := by decide +kernel
theorem dX9_land_52 : decode cX9_land 52 = .ok (.ireturn, 1) := by decide +kernel
theorem dX9_told_0 : decode cX9_told 0 = .ok (.iload_n 1, 1) := by decide +kernel
theorem dX9_told_1 : decode cX9_told 1 = .ok (.invokestatic 90, 3) := by decide +kernel
theorem dX9_told_4 : decode cX9_told 4 = .ok (.ifCond .ne 6, 3) := by decide +kernel
theorem dX9_told_7 : decode cX9_told 7 = .ok (.ldc 98, 2) := by decide +kernel
theorem dX9_told_9 : decode cX9_told 9 = .ok (.ireturn, 1) := by decide +kernel
theorem dX9_told_10 : decode cX9_told 10 = .ok (.iload_n 2, 1) := by decide +kernel
theorem dX9_told_11 : decode cX9_told 11 = .ok (.tableswitch 106 0 7 #[45, 45, 52, 58, 64, 70, 77, 87], 45) := by decide +kernel
theorem dX9_told_56 : decode cX9_told 56 = .ok (.aload_n 0, 1) := by decide +kernel
theorem dX9_told_57 : decode cX9_told 57 = .ok (.iload_n 1, 1) := by decide +kernel
theorem dX9_told_58 : decode cX9_told 58 = .ok (.iload_n 2, 1) := by decide +kernel
theorem dX9_told_59 : decode cX9_told 59 = .ok (.invokevirtual 70, 3) := by decide +kernel
theorem dX9_told_62 : decode cX9_told 62 = .ok (.ireturn, 1) := by decide +kernel
theorem dX9_told_63 : decode cX9_told 63 = .ok (.aload_n 0, 1) := by decide +kernel
theorem dX9_told_64 : decode cX9_told 64 = .ok (.iload_n 1, 1) := by decide +kernel
theorem dX9_told_65 : decode cX9_told 65 = .ok (.invokevirtual 78, 3) := by decide +kernel
theorem dX9_told_68 : decode cX9_told 68 = .ok (.ireturn, 1) := by decide +kernel
theorem dX9_told_69 : decode cX9_told 69 = .ok (.aload_n 0, 1) := by decide +kernel
theorem dX9_told_70 : decode cX9_told 70 = .ok (.iload_n 1, 1) := by decide +kernel
theorem dX9_told_71 : decode cX9_told 71 = .ok (.invokevirtual 106, 3) := by decide +kernel
theorem dX9_told_74 : decode cX9_told 74 = .ok (.ireturn, 1) := by decide +kernel
theorem dX9_told_75 : decode cX9_told 75 = .ok (.aload_n 0, 1) := by decide +kernel
theorem dX9_told_76 : decode cX9_told 76 = .ok (.iload_n 1, 1) := by decide +kernel
theorem dX9_told_77 : decode cX9_told 77 = .ok (.invokevirtual 109, 3) := by decide +kernel
theorem dX9_told_80 : decode cX9_told 80 = .ok (.ireturn, 1) := by decide +kernel
theorem dX9_told_81 : decode cX9_told 81 = .ok (.aload_n 0, 1) := by decide +kernel
theorem dX9_told_82 : decode cX9_told 82 = .ok (.iload_n 1, 1) := by decide +kernel
theorem dX9_told_83 : decode cX9_told 83 = .ok (.iconst 2, 1) := by decide +kernel
theorem dX9_told_84 : decode cX9_told 84 = .ok (.invokevirtual 70, 3) := by decide +kernel
theorem dX9_told_87 : decode cX9_told 87 = .ok (.ireturn, 1) := by decide +kernel
theorem dX9_told_88 : decode cX9_told 88 = .ok (.aload_n 0, 1) := by decide +kernel
theorem dX9_told_89 : decode cX9_told 89 = .ok (.iload_n 1, 1) := by decide +kernel
theorem dX9_told_90 : decode cX9_told 90 = .ok (.iconst 3, 1) := by decide +kernel
theorem dX9_told_91 : decode cX9_told 91 = .ok (.invokevirtual 70, 3) := by decide +kernel
theorem dX9_told_94 : decode cX9_told 94 = .ok (.invokestatic 112, 3) := by decide +kernel
theorem dX9_told_97 : decode cX9_told 97 = .ok (.ireturn, 1) := by decide +kernel
theorem dX9_told_98 : decode cX9_told 98 = .ok (.aload_n 0, 1) := by decide +kernel
theorem dX9_told_99 : decode cX9_told 99 = .ok (.iload_n 1, 1) := by decide +kernel
theorem dX9_told_100 : decode cX9_told 100 = .ok (.invokevirtual 78, 3) := by decide +kernel
theorem dX9_told_103 : decode cX9_told 103 = .ok (.aload_n 0, 1) := by decide +kernel
theorem dX9_told_104 : decode cX9_told 104 = .ok (.iconst 0, 1) := by decide +kernel
theorem dX9_told_105 : decode cX9_told 105 = .ok (.invokevirtual 87, 3) := by decide +kernel
theorem dX9_told_108 : decode cX9_told 108 = .ok (.if_icmp .le 7, 3) := by decide +kernel
theorem dX9_told_111 : decode cX9_told 111 = .ok (.iconst 1, 1) := by decide +kernel
theorem dX9_told_112 : decode cX9_told 112 = .ok (.goto 4, 3) := by decide +kernel
theorem dX9_told_115 : decode cX9_told 115 = .ok (.iconst 0, 1) := by decide +kernel
theorem dX9_told_116 : decode cX9_told 116 = .ok (.ireturn, 1) := by decide +kernel
theorem dX9_told_117 : decode cX9_told 117 = .ok (.ldc 98, 2) := by decide +kernel
theorem dX9_told_119 : decode cX9_told 119 = .ok (.ireturn, 1) := by decide +kernel
theorem dX9_isOf_0 : decode cX9_isOf 0 = .ok (.iload_n 0, 1) := by decide +kernel
theorem dX9_isOf_1 : decode cX9_isOf 1 = .ok (.iload_n 1, 1) := by decide +kernel
theorem dX9_isOf_2 : decode cX9_isOf 2 = .ok (.if_icmp .eq 27, 3) := by decide +kernel
theorem dX9_isOf_5 : decode cX9_isOf 5 = .ok (.iload_n 1, 1) := by decide +kernel
theorem dX9_isOf_6 : decode cX9_isOf 6 = .ok (.ifCond .eq 23, 3) := by decide +kernel
theorem dX9_isOf_9 : decode cX9_isOf 9 = .ok (.iload_n 1, 1) := by decide +kernel
theorem dX9_isOf_10 : decode cX9_isOf 10 = .ok (.iconst 1, 1) := by decide +kernel
theorem dX9_isOf_11 : decode cX9_isOf 11 = .ok (.if_icmp .ne 8, 3) := by decide +kernel
theorem dX9_isOf_14 : decode cX9_isOf 14 = .ok (.iload_n 0, 1) := by decide +kernel
theorem dX9_isOf_15 : decode cX9_isOf 15 = .ok (.iconst 3, 1) := by decide +kernel
theorem dX9_isOf_16 : decode cX9_isOf 16 = .ok (.if_icmp .eq 13, 3) := by decide +kernel
theorem dX9_isOf_19 : decode cX9_isOf 19 = .ok (.iload_n 1, 1) := by decide +kernel
theorem dX9_isOf_20 : decode cX9_isOf 20 = .ok (.iconst 2, 1) := by decide +kernel
theorem dX9_isOf_21 : decode cX9_isOf 21 = .ok (.if_icmp .ne 12, 3) := by decide +kernel
theorem dX9_isOf_24 : decode cX9_isOf 24 = .ok (.iload_n 0, 1) := by decide +kernel
theorem dX9_isOf_25 : decode cX9_isOf 25 = .ok (.iconst 4, 1) := by decide +kernel
theorem dX9_isOf_26 : decode cX9_isOf 26 = .ok (.if_icmp .ne 7, 3) := by decide +kernel
theorem dX9_isOf_29 : decode cX9_isOf 29 = .ok (.iconst 1, 1) := by decide +kernel
theorem dX9_isOf_30 : decode cX9_isOf 30 = .ok (.goto 4, 3) := by decide +kernel
theorem dX9_isOf_33 : decode cX9_isOf 33 = .ok (.iconst 0, 1) := by decide +kernel
theorem dX9_isOf_34 : decode cX9_isOf 34 = .ok (.ireturn, 1) := by decide +kernel
theorem dX9_as_0 : decode cX9_as 0 = .ok (.iload_n 1, 1) := by decide +kernel
theorem dX9_as_1 : decode cX9_as 1 = .ok (.invokestatic 90, 3) := by decide +kernel
theorem dX9_as_4 : decode cX9_as 4 = .ok (.ifCond .eq 15, 3) := by decide +kernel
theorem dX9_as_7 : decode cX9_as 7 = .ok (.iload_n 2, 1) := by decide +kernel
theorem dX9_as_8 : decode cX9_as 8 = .ok (.i2l, 1) := by decide +kernel
theorem dX9_as_9 : decode cX9_as 9 = .ok (.lconst 0, 1) := by decide +kernel
theorem dX9_as_10 : decode cX9_as 10 = .ok (.ldc2_w 94, 3) := by decide +kernel
theorem dX9_as_13 : decode cX9_as 13 = .ok (.invokestatic 65, 3) := by decide +kernel
theorem dX9_as_16 : decode cX9_as 16 = .ok (.ifCond .ne 6, 3) := by decide +kernel
theorem dX9_as_19 : decode cX9_as 19 = .ok (.ldc 98, 2) := by decide +kernel
theorem dX9_as_21 : decode cX9_as 21 = .ok (.ireturn, 1) := by decide +kernel
theorem dX9_as_22 : decode cX9_as 22 = .ok (.aload_n 0, 1) := by decide +kernel
theorem dX9_as_23 : decode cX9_as 23 = .ok (.iload_n 1, 1) := by decide +kernel
theorem dX9_as_24 : decode cX9_as 24 = .ok (.iconst 0, 1) := by decide +kernel
theorem dX9_as_25 : decode cX9_as 25 = .ok (.invokevirtual 70, 3) := by decide +kernel
theorem dX9_as_28 : decode cX9_as 28 = .ok (.iload_n 2, 1) := by decide +kernel
theorem dX9_as_29 : decode cX9_as 29 = .ok (.invokestatic 115, 3) := by decide +kernel
theorem dX9_as_32 : decode cX9_as 32 = .ok (.ifCond .eq 12, 3) := by decide +kernel
theorem dX9_as_35 : decode cX9_as 35 = .ok (.aload_n 0, 1) := by decide +kernel
theorem dX9_as_36 : decode cX9_as 36 = .ok (.iload_n 1, 1) := by decide +kernel
theorem dX9_as_37 : decode cX9_as 37 = .ok (.iconst 1, 1) := by decide +kernel
theorem dX9_as_38 : decode cX9_as 38 = .ok (.invokevirtual 70, 3) := by decide +kernel
theorem dX9_as_41 : decode cX9_as 41 = .ok (.goto 5, 3) := by decide +kernel
theorem dX9_as_44 : decode cX9_as 44 = .ok (.ldc 119, 2) := by decide +kernel
theorem dX9_as_46 : decode cX9_as 46 = .ok (.ireturn, 1) := by decide +kernel
theorem dX9_turns_0 : decode cX9_turns 0 = .ok (.iload_n 1, 1) := by decide +kernel
theorem dX9_turns_1 : decode cX9_turns 1 = .ok (.invokestatic 90, 3) := by decide +kernel
theorem dX9_turns_4 : decode cX9_turns 4 = .ok (.ifCond .eq 29, 3) := by decide +kernel
theorem dX9_turns_7 : decode cX9_turns 7 = .ok (.iload_n 2, 1) := by decide +kernel
theorem dX9_turns_8 : decode cX9_turns 8 = .ok (.i2l, 1) := by decide +kernel
theorem dX9_turns_9 : decode cX9_turns 9 = .ok (.lconst 0, 1) := by decide +kernel
theorem dX9_turns_10 : decode cX9_turns 10 = .ok (.ldc2_w 94, 3) := by decide +kernel
theorem dX9_turns_13 : decode cX9_turns 13 = .ok (.invokestatic 65, 3) := by decide +kernel
theorem dX9_turns_16 : decode cX9_turns 16 = .ok (.ifCond .eq 17, 3) := by decide +kernel
theorem dX9_turns_19 : decode cX9_turns 19 = .ok (.aload_n 0, 1) := by decide +kernel
theorem dX9_turns_20 : decode cX9_turns 20 = .ok (.bipush 11, 2) := by decide +kernel
theorem dX9_turns_22 : decode cX9_turns 22 = .ok (.iconst 4, 1) := by decide +kernel
theorem dX9_turns_23 : decode cX9_turns 23 = .ok (.iload_n 1, 1) := by decide +kernel
theorem dX9_turns_24 : decode cX9_turns 24 = .ok (.imul, 1) := by decide +kernel
theorem dX9_turns_25 : decode cX9_turns 25 = .ok (.iadd, 1) := by decide +kernel
theorem dX9_turns_26 : decode cX9_turns 26 = .ok (.iload_n 2, 1) := by decide +kernel
theorem dX9_turns_27 : decode cX9_turns 27 = .ok (.invokevirtual 103, 3) := by decide +kernel
theorem dX9_turns_30 : decode cX9_turns 30 = .ok (.goto 5, 3) := by decide +kernel
theorem dX9_turns_33 : decode cX9_turns 33 = .ok (.ldc 98, 2) := by decide +kernel
theorem dX9_turns_35 : decode cX9_turns 35 = .ok (.ireturn, 1) := by decide +kernel
theorem dX9_set_0 : decode cX9_set 0 = .ok (.iload_n 2, 1) := by decide +kernel
theorem dX9_set_1 : decode cX9_set 1 = .ok (.ifCond .ne 15, 3) := by decide +kernel
theorem dX9_set_4 : decode cX9_set 4 = .ok (.iload_n 3, 1) := by decide +kernel
theorem dX9_set_5 : decode cX9_set 5 = .ok (.i2l, 1) := by decide +kernel
theorem dX9_set_6 : decode cX9_set 6 = .ok (.lconst 0, 1) := by decide +kernel
theorem dX9_set_7 : decode cX9_set 7 = .ok (.ldc2_w 120, 3) := by decide +kernel
theorem dX9_set_10 : decode cX9_set 10 = .ok (.invokestatic 65, 3) := by decide +kernel
theorem dX9_set_13 : decode cX9_set 13 = .ok (.goto 31, 3) := by decide +kernel
theorem dX9_set_16 : decode cX9_set 16 = .ok (.iload_n 2, 1) := by decide +kernel
theorem dX9_set_17 : decode cX9_set 17 = .ok (.iconst 1, 1) := by decide +kernel
theorem dX9_set_18 : decode cX9_set 18 = .ok (.if_icmp .ne 25, 3) := by decide +kernel
theorem dX9_set_21 : decode cX9_set 21 = .ok (.iload_n 3, 1) := by decide +kernel
theorem dX9_set_22 : decode cX9_set 22 = .ok (.ldc 64, 2) := by decide +kernel
theorem dX9_set_24 : decode cX9_set 24 = .ok (.if_icmp .eq 15, 3) := by decide +kernel
theorem dX9_set_27 : decode cX9_set 27 = .ok (.iload_n 3, 1) := by decide +kernel
theorem dX9_set_28 : decode cX9_set 28 = .ok (.i2l, 1) := by decide +kernel
theorem dX9_set_29 : decode cX9_set 29 = .ok (.lconst 0, 1) := by decide +kernel
theorem dX9_set_30 : decode cX9_set 30 = .ok (.ldc2_w 122, 3) := by decide +kernel
theorem dX9_set_33 : decode cX9_set 33 = .ok (.invokestatic 65, 3) := by decide +kernel
theorem dX9_set_36 : decode cX9_set 36 = .ok (.ifCond .eq 7, 3) := by decide +kernel
theorem dX9_set_39 : decode cX9_set 39 = .ok (.iconst 1, 1) := by decide +kernel
theorem dX9_set_40 : decode cX9_set 40 = .ok (.goto 4, 3) := by decide +kernel
theorem dX9_set_43 : decode cX9_set 43 = .ok (.iconst 0, 1) := by decide +kernel
theorem dX9_set_44 : decode cX9_set 44 = .ok (.istore 4, 2) := by decide +kernel
theorem dX9_set_46 : decode cX9_set 46 = .ok (.iload_n 1, 1) := by decide +kernel
theorem dX9_set_47 : decode cX9_set 47 = .ok (.invokestatic 90, 3) := by decide +kernel
theorem dX9_set_50 : decode cX9_set 50 = .ok (.ifCond .eq 8, 3) := by decide +kernel
theorem dX9_set_53 : decode cX9_set 53 = .ok (.iload 4, 2) := by decide +kernel
theorem dX9_set_55 : decode cX9_set 55 = .ok (.ifCond .ne 6, 3) := by decide +kernel
theorem dX9_set_58 : decode cX9_set 58 = .ok (.ldc 98, 2) := by decide +kernel
theorem dX9_set_60 : decode cX9_set 60 = .ok (.ireturn, 1) := by decide +kernel
theorem dX9_set_61 : decode cX9_set 61 = .ok (.aload_n 0, 1) := by decide +kernel
theorem dX9_set_62 : decode cX9_set 62 = .ok (.bipush 11, 2) := by decide +kernel
theorem dX9_set_64 : decode cX9_set 64 = .ok (.iconst 4, 1) := by decide +kernel
theorem dX9_set_65 : decode cX9_set 65 = .ok (.iload_n 1, 1) := by decide +kernel
theorem dX9_set_66 : decode cX9_set 66 = .ok (.imul, 1) := by decide +kernel
theorem dX9_set_67 : decode cX9_set 67 = .ok (.iadd, 1) := by decide +kernel
theorem dX9_set_68 : decode cX9_set 68 = .ok (.iconst 2, 1) := by decide +kernel
theorem dX9_set_69 : decode cX9_set 69 = .ok (.iadd, 1) := by decide +kernel
theorem dX9_set_70 : decode cX9_set 70 = .ok (.iload_n 2, 1) := by decide +kernel
theorem dX9_set_71 : decode cX9_set 71 = .ok (.iadd, 1) := by decide +kernel
theorem dX9_set_72 : decode cX9_set 72 = .ok (.iload_n 3, 1) := by decide +kernel
theorem dX9_set_73 : decode cX9_set 73 = .ok (.ldc 64, 2) := by decide +kernel
theorem dX9_set_75 : decode cX9_set 75 = .ok (.if_icmp .ne 7, 3) := by decide +kernel
theorem dX9_set_78 : decode cX9_set 78 = .ok (.iconst (-1), 1) := by decide +kernel
theorem dX9_set_79 : decode cX9_set 79 = .ok (.goto 4, 3) := by decide +kernel
theorem dX9_set_82 : decode cX9_set 82 = .ok (.iload_n 3, 1) := by decide +kernel
theorem dX9_set_83 : decode cX9_set 83 = .ok (.invokevirtual 103, 3) := by decide +kernel
theorem dX9_set_86 : decode cX9_set 86 = .ok (.istore 5, 2) := by decide +kernel
theorem dX9_set_88 : decode cX9_set 88 = .ok (.iload 5, 2) := by decide +kernel
theorem dX9_set_90 : decode cX9_set 90 = .ok (.invokestatic 112, 3) := by decide +kernel
theorem dX9_set_93 : decode cX9_set 93 = .ok (.ireturn, 1) := by decide +kernel
theorem dX9_mostOf_0 : decode cX9_mostOf 0 = .ok (.iload_n 0, 1) := by decide +kernel
theorem dX9_mostOf_1 : decode cX9_mostOf 1 = .ok (.iconst 2, 1) := by decide +kernel
theorem dX9_mostOf_2 : decode cX9_mostOf 2 = .ok (.if_icmp .eq 8, 3) := by decide +kernel
theorem dX9_mostOf_5 : decode cX9_mostOf 5 = .ok (.iload_n 0, 1) := by decide +kernel
theorem dX9_mostOf_6 : decode cX9_mostOf 6 = .ok (.iconst 3, 1) := by decide +kernel
theorem dX9_mostOf_7 : decode cX9_mostOf 7 = .ok (.if_icmp .ne 8, 3) := by decide +kernel
theorem dX9_mostOf_10 : decode cX9_mostOf 10 = .ok (.bipush 9, 2) := by decide +kernel
theorem dX9_mostOf_12 : decode cX9_mostOf 12 = .ok (.goto 15, 3) := by decide +kernel
theorem dX9_mostOf_15 : decode cX9_mostOf 15 = .ok (.iload_n 0, 1) := by decide +kernel
theorem dX9_mostOf_16 : decode cX9_mostOf 16 = .ok (.iconst 4, 1) := by decide +kernel
theorem dX9_mostOf_17 : decode cX9_mostOf 17 = .ok (.if_icmp .ne 8, 3) := by decide +kernel
theorem dX9_mostOf_20 : decode cX9_mostOf 20 = .ok (.bipush 100, 2) := by decide +kernel
theorem dX9_mostOf_22 : decode cX9_mostOf 22 = .ok (.goto 5, 3) := by decide +kernel
theorem dX9_mostOf_25 : decode cX9_mostOf 25 = .ok (.bipush 20, 2) := by decide +kernel
theorem dX9_mostOf_27 : decode cX9_mostOf 27 = .ok (.ireturn, 1) := by decide +kernel
theorem dX9_sea_0 : decode cX9_sea 0 = .ok (.iload_n 1, 1) := by decide +kernel
theorem dX9_sea_1 : decode cX9_sea 1 = .ok (.i2l, 1) := by decide +kernel
theorem dX9_sea_2 : decode cX9_sea 2 = .ok (.lconst 0, 1) := by decide +kernel
theorem dX9_sea_3 : decode cX9_sea 3 = .ok (.ldc2_w 94, 3) := by decide +kernel
theorem dX9_sea_6 : decode cX9_sea 6 = .ok (.invokestatic 65, 3) := by decide +kernel
theorem dX9_sea_9 : decode cX9_sea 9 = .ok (.ifCond .eq 28, 3) := by decide +kernel
theorem dX9_sea_12 : decode cX9_sea 12 = .ok (.iload_n 2, 1) := by decide +kernel
theorem dX9_sea_13 : decode cX9_sea 13 = .ok (.i2l, 1) := by decide +kernel
theorem dX9_sea_14 : decode cX9_sea 14 = .ok (.lconst 0, 1) := by decide +kernel
theorem dX9_sea_15 : decode cX9_sea 15 = .ok (.iload_n 1, 1) := by decide +kernel
theorem dX9_sea_16 : decode cX9_sea 16 = .ok (.invokestatic 124, 3) := by decide +kernel
theorem dX9_sea_19 : decode cX9_sea 19 = .ok (.i2l, 1) := by decide +kernel
theorem dX9_sea_20 : decode cX9_sea 20 = .ok (.invokestatic 65, 3) := by decide +kernel
theorem dX9_sea_23 : decode cX9_sea 23 = .ok (.ifCond .eq 14, 3) := by decide +kernel
theorem dX9_sea_26 : decode cX9_sea 26 = .ok (.aload_n 0, 1) := by decide +kernel
theorem dX9_sea_27 : decode cX9_sea 27 = .ok (.iconst 5, 1) := by decide +kernel
theorem dX9_sea_28 : decode cX9_sea 28 = .ok (.iload_n 1, 1) := by decide +kernel
theorem dX9_sea_29 : decode cX9_sea 29 = .ok (.iadd, 1) := by decide +kernel
theorem dX9_sea_30 : decode cX9_sea 30 = .ok (.iload_n 2, 1) := by decide +kernel
theorem dX9_sea_31 : decode cX9_sea 31 = .ok (.invokevirtual 103, 3) := by decide +kernel
theorem dX9_sea_34 : decode cX9_sea 34 = .ok (.goto 5, 3) := by decide +kernel
theorem dX9_sea_37 : decode cX9_sea 37 = .ok (.ldc 98, 2) := by decide +kernel
theorem dX9_sea_39 : decode cX9_sea 39 = .ok (.ireturn, 1) := by decide +kernel
theorem dX9_deal_0 : decode cX9_deal 0 = .ok (.iconst 0, 1) := by decide +kernel
theorem dX9_deal_1 : decode cX9_deal 1 = .ok (.istore_n 1, 1) := by decide +kernel
theorem dX9_deal_2 : decode cX9_deal 2 = .ok (.iload_n 1, 1) := by decide +kernel
theorem dX9_deal_3 : decode cX9_deal 3 = .ok (.bipush 30, 2) := by decide +kernel
theorem dX9_deal_5 : decode cX9_deal 5 = .ok (.if_icmp .ge 67, 3) := by decide +kernel
theorem dX9_deal_8 : decode cX9_deal 8 = .ok (.aload_n 0, 1) := by decide +kernel
theorem dX9_deal_9 : decode cX9_deal 9 = .ok (.iload_n 1, 1) := by decide +kernel
theorem dX9_deal_10 : decode cX9_deal 10 = .ok (.iconst 0, 1) := by decide +kernel
theorem dX9_deal_11 : decode cX9_deal 11 = .ok (.aload_n 0, 1) := by decide +kernel
theorem dX9_deal_12 : decode cX9_deal 12 = .ok (.invokevirtual 127, 3) := by decide +kernel
theorem dX9_deal_15 : decode cX9_deal 15 = .ok (.bipush 6, 2) := by decide +kernel
theorem dX9_deal_17 : decode cX9_deal 17 = .ok (.irem, 1) := by decide +kernel
theorem dX9_deal_18 : decode cX9_deal 18 = .ok (.invokevirtual 99, 3) := by decide +kernel
theorem dX9_deal_21 : decode cX9_deal 21 = .ok (.aload_n 0, 1) := by decide +kernel
theorem dX9_deal_22 : decode cX9_deal 22 = .ok (.iload_n 1, 1) := by decide +kernel
theorem dX9_deal_23 : decode cX9_deal 23 = .ok (.iconst 1, 1) := by decide +kernel
theorem dX9_deal_24 : decode cX9_deal 24 = .ok (.aload_n 0, 1) := by decide +kernel
theorem dX9_deal_25 : decode cX9_deal 25 = .ok (.invokevirtual 127, 3) := by decide +kernel
theorem dX9_deal_28 : decode cX9_deal 28 = .ok (.bipush 21, 2) := by decide +kernel
theorem dX9_deal_30 : decode cX9_deal 30 = .ok (.irem, 1) := by decide +kernel
theorem dX9_deal_31 : decode cX9_deal 31 = .ok (.invokevirtual 99, 3) := by decide +kernel
theorem dX9_deal_34 : decode cX9_deal 34 = .ok (.aload_n 0, 1) := by decide +kernel
theorem dX9_deal_35 : decode cX9_deal 35 = .ok (.invokevirtual 127, 3) := by decide +kernel
theorem dX9_deal_38 : decode cX9_deal 38 = .ok (.bipush 9, 2) := by decide +kernel
theorem dX9_deal_40 : decode cX9_deal 40 = .ok (.irem, 1) := by decide +kernel
theorem dX9_deal_41 : decode cX9_deal 41 = .ok (.istore_n 2, 1) := by decide +kernel
theorem dX9_deal_42 : decode cX9_deal 42 = .ok (.aload_n 0, 1) := by decide +kernel
theorem dX9_deal_43 : decode cX9_deal 43 = .ok (.iload_n 1, 1) := by decide +kernel
theorem dX9_deal_44 : decode cX9_deal 44 = .ok (.iconst 3, 1) := by decide +kernel
theorem dX9_deal_45 : decode cX9_deal 45 = .ok (.iload_n 2, 1) := by decide +kernel
theorem dX9_deal_46 : decode cX9_deal 46 = .ok (.bipush 8, 2) := by decide +kernel
theorem dX9_deal_48 : decode cX9_deal 48 = .ok (.if_icmp .ne 7, 3) := by decide +kernel
theorem dX9_deal_51 : decode cX9_deal 51 = .ok (.iconst (-1), 1) := by decide +kernel
theorem dX9_deal_52 : decode cX9_deal 52 = .ok (.goto 4, 3) := by decide +kernel
theorem dX9_deal_55 : decode cX9_deal 55 = .ok (.iload_n 2, 1) := by decide +kernel
theorem dX9_deal_56 : decode cX9_deal 56 = .ok (.invokevirtual 99, 3) := by decide +kernel
theorem dX9_deal_59 : decode cX9_deal 59 = .ok (.aload_n 0, 1) := by decide +kernel
theorem dX9_deal_60 : decode cX9_deal 60 = .ok (.iload_n 1, 1) := by decide +kernel
theorem dX9_deal_61 : decode cX9_deal 61 = .ok (.iconst 2, 1) := by decide +kernel
theorem dX9_deal_62 : decode cX9_deal 62 = .ok (.iconst 0, 1) := by decide +kernel
theorem dX9_deal_63 : decode cX9_deal 63 = .ok (.invokevirtual 99, 3) := by decide +kernel
theorem dX9_deal_66 : decode cX9_deal 66 = .ok (.iinc 1 1, 3) := by decide +kernel
theorem dX9_deal_69 : decode cX9_deal 69 = .ok (.goto (-67), 3) := by decide +kernel
theorem dX9_deal_72 : decode cX9_deal 72 = .ok (.aload_n 0, 1) := by decide +kernel
theorem dX9_deal_73 : decode cX9_deal 73 = .ok (.iconst 0, 1) := by decide +kernel
theorem dX9_deal_74 : decode cX9_deal 74 = .ok (.invokevirtual 131, 3) := by decide +kernel
theorem dX9_deal_77 : decode cX9_deal 77 = .ok (.invokestatic 134, 3) := by decide +kernel
theorem dX9_deal_80 : decode cX9_deal 80 = .ok (.ireturn, 1) := by decide +kernel
theorem dX9_seed_0 : decode cX9_seed 0 = .ok (.aload_n 0, 1) := by decide +kernel
theorem dX9_seed_1 : decode cX9_seed 1 = .ok (.iconst 4, 1) := by decide +kernel
theorem dX9_seed_2 : decode cX9_seed 2 = .ok (.iload_n 1, 1) := by decide +kernel
theorem dX9_seed_3 : decode cX9_seed 3 = .ok (.invokevirtual 103, 3) := by decide +kernel
theorem dX9_seed_6 : decode cX9_seed 6 = .ok (.ireturn, 1) := by decide +kernel
theorem dX9_beside_0 : decode cX9_beside 0 = .ok (.iload_n 0, 1) := by decide +kernel
theorem dX9_beside_1 : decode cX9_beside 1 = .ok (.bipush 6, 2) := by decide +kernel
theorem dX9_beside_3 : decode cX9_beside 3 = .ok (.irem, 1) := by decide +kernel
theorem dX9_beside_4 : decode cX9_beside 4 = .ok (.istore_n 2, 1) := by decide +kernel
theorem dX9_beside_5 : decode cX9_beside 5 = .ok (.iload_n 1, 1) := by decide +kernel
theorem dX9_beside_6 : decode cX9_beside 6 = .ok (.ifCond .ne 10, 3) := by decide +kernel
theorem dX9_beside_9 : decode cX9_beside 9 = .ok (.iload_n 0, 1) := by decide +kernel
theorem dX9_beside_10 : decode cX9_beside 10 = .ok (.bipush 6, 2) := by decide +kernel
theorem dX9_beside_12 : decode cX9_beside 12 = .ok (.iadd, 1) := by decide +kernel
theorem dX9_beside_13 : decode cX9_beside 13 = .ok (.goto 46, 3) := by decide +kernel
theorem dX9_beside_16 : decode cX9_beside 16 = .ok (.iload_n 1, 1) := by decide +kernel
theorem dX9_beside_17 : decode cX9_beside 17 = .ok (.iconst 1, 1) := by decide +kernel
theorem dX9_beside_18 : decode cX9_beside 18 = .ok (.if_icmp .ne 18, 3) := by decide +kernel
theorem dX9_beside_21 : decode cX9_beside 21 = .ok (.iload_n 2, 1) := by decide +kernel
theorem dX9_beside_22 : decode cX9_beside 22 = .ok (.iconst 5, 1) := by decide +kernel
theorem dX9_beside_23 : decode cX9_beside 23 = .ok (.if_icmp .ne 7, 3) := by decide +kernel
theorem dX9_beside_26 : decode cX9_beside 26 = .ok (.iconst (-1), 1) := by decide +kernel
theorem dX9_beside_27 : decode cX9_beside 27 = .ok (.goto 32, 3) := by decide +kernel
theorem dX9_beside_30 : decode cX9_beside 30 = .ok (.iload_n 0, 1) := by decide +kernel
theorem dX9_beside_31 : decode cX9_beside 31 = .ok (.iconst 1, 1) := by decide +kernel
theorem dX9_beside_32 : decode cX9_beside 32 = .ok (.iadd, 1) := by decide +kernel
theorem dX9_beside_33 : decode cX9_beside 33 = .ok (.goto 26, 3) := by decide +kernel
theorem dX9_beside_36 : decode cX9_beside 36 = .ok (.iload_n 1, 1) := by decide +kernel
theorem dX9_beside_37 : decode cX9_beside 37 = .ok (.iconst 2, 1) := by decide +kernel
theorem dX9_beside_38 : decode cX9_beside 38 = .ok (.if_icmp .ne 10, 3) := by decide +kernel
theorem dX9_beside_41 : decode cX9_beside 41 = .ok (.iload_n 0, 1) := by decide +kernel
theorem dX9_beside_42 : decode cX9_beside 42 = .ok (.bipush 6, 2) := by decide +kernel
theorem dX9_beside_44 : decode cX9_beside 44 = .ok (.isub, 1) := by decide +kernel
theorem dX9_beside_45 : decode cX9_beside 45 = .ok (.goto 14, 3) := by decide +kernel
theorem dX9_beside_48 : decode cX9_beside 48 = .ok (.iload_n 2, 1) := by decide +kernel
theorem dX9_beside_49 : decode cX9_beside 49 = .ok (.ifCond .ne 7, 3) := by decide +kernel
theorem dX9_beside_52 : decode cX9_beside 52 = .ok (.iconst (-1), 1) := by decide +kernel
theorem dX9_beside_53 : decode cX9_beside 53 = .ok (.goto 6, 3) := by decide +kernel
theorem dX9_beside_56 : decode cX9_beside 56 = .ok (.iload_n 0, 1) := by decide +kernel
theorem dX9_beside_57 : decode cX9_beside 57 = .ok (.iconst 1, 1) := by decide +kernel
theorem dX9_beside_58 : decode cX9_beside 58 = .ok (.isub, 1) := by decide +kernel
theorem dX9_beside_59 : decode cX9_beside 59 = .ok (.istore_n 3, 1) := by decide +kernel
theorem dX9_beside_60 : decode cX9_beside 60 = .ok (.iload_n 3, 1) := by decide +kernel
theorem dX9_beside_61 : decode cX9_beside 61 = .ok (.invokestatic 90, 3) := by decide +kernel
theorem dX9_beside_64 : decode cX9_beside 64 = .ok (.ifCond .eq 7, 3) := by decide +kernel
theorem dX9_beside_67 : decode cX9_beside 67 = .ok (.iload_n 3, 1) := by decide +kernel
theorem dX9_beside_68 : decode cX9_beside 68 = .ok (.goto 4, 3) := by decide +kernel
theorem dX9_beside_71 : decode cX9_beside 71 = .ok (.iconst (-1), 1) := by decide +kernel
theorem dX9_beside_72 : decode cX9_beside 72 = .ok (.ireturn, 1) := by decide +kernel
theorem dX9_spread_0 : decode cX9_spread 0 = .ok (.iload_n 0, 1) := by decide +kernel
theorem dX9_spread_1 : decode cX9_spread 1 = .ok (.istore_n 1, 1) := by decide +kernel
theorem dX9_spread_2 : decode cX9_spread 2 = .ok (.iconst 0, 1) := by decide +kernel
theorem dX9_spread_3 : decode cX9_spread 3 = .ok (.istore_n 2, 1) := by decide +kernel
theorem dX9_spread_4 : decode cX9_spread 4 = .ok (.iload_n 2, 1) := by decide +kernel
theorem dX9_spread_5 : decode cX9_spread 5 = .ok (.bipush 30, 2) := by decide +kernel
theorem dX9_spread_7 : decode cX9_spread 7 = .ok (.if_icmp .ge 53, 3) := by decide +kernel
theorem dX9_spread_10 : decode cX9_spread 10 = .ok (.iconst 0, 1) := by decide +kernel
theorem dX9_spread_11 : decode cX9_spread 11 = .ok (.istore_n 3, 1) := by decide +kernel
theorem dX9_spread_12 : decode cX9_spread 12 = .ok (.iload_n 3, 1) := by decide +kernel
theorem dX9_spread_13 : decode cX9_spread 13 = .ok (.iconst 4, 1) := by decide +kernel
theorem dX9_spread_14 : decode cX9_spread 14 = .ok (.if_icmp .ge 40, 3) := by decide +kernel
theorem dX9_spread_17 : decode cX9_spread 17 = .ok (.iload_n 0, 1) := by decide +kernel
theorem dX9_spread_18 : decode cX9_spread 18 = .ok (.iload_n 2, 1) := by decide +kernel
theorem dX9_spread_19 : decode cX9_spread 19 = .ok (.ishr, 1) := by decide +kernel
theorem dX9_spread_20 : decode cX9_spread 20 = .ok (.iconst 1, 1) := by decide +kernel
theorem dX9_spread_21 : decode cX9_spread 21 = .ok (.iand, 1) := by decide +kernel
theorem dX9_spread_22 : decode cX9_spread 22 = .ok (.iconst 1, 1) := by decide +kernel
theorem dX9_spread_23 : decode cX9_spread 23 = .ok (.if_icmp .ne 31, 3) := by decide +kernel
theorem dX9_spread_26 : decode cX9_spread 26 = .ok (.iload_n 1, 1) := by decide +kernel
theorem dX9_spread_27 : decode cX9_spread 27 = .ok (.iload_n 2, 1) := by decide +kernel
theorem dX9_spread_28 : decode cX9_spread 28 = .ok (.iload_n 3, 1) := by decide +kernel
theorem dX9_spread_29 : decode cX9_spread 29 = .ok (.invokestatic 137, 3) := by decide +kernel
theorem dX9_spread_32 : decode cX9_spread 32 = .ok (.ifCond .ge 7, 3) := by decide +kernel
theorem dX9_spread_35 : decode cX9_spread 35 = .ok (.iconst 0, 1) := by decide +kernel
theorem dX9_spread_36 : decode cX9_spread 36 = .ok (.goto 10, 3) := by decide +kernel
theorem dX9_spread_39 : decode cX9_spread 39 = .ok (.iconst 1, 1) := by decide +kernel
theorem dX9_spread_40 : decode cX9_spread 40 = .ok (.iload_n 2, 1) := by decide +kernel
theorem dX9_spread_41 : decode cX9_spread 41 = .ok (.iload_n 3, 1) := by decide +kernel
theorem dX9_spread_42 : decode cX9_spread 42 = .ok (.invokestatic 137, 3) := by decide +kernel
theorem dX9_spread_45 : decode cX9_spread 45 = .ok (.ishl, 1) := by decide +kernel
theorem dX9_spread_46 : decode cX9_spread 46 = .ok (.ior, 1) := by decide +kernel
theorem dX9_spread_47 : decode cX9_spread 47 = .ok (.istore_n 1, 1) := by decide +kernel
theorem dX9_spread_48 : decode cX9_spread 48 = .ok (.iinc 3 1, 3) := by decide +kernel
theorem dX9_spread_51 : decode cX9_spread 51 = .ok (.goto (-39), 3) := by decide +kernel
theorem dX9_spread_54 : decode cX9_spread 54 = .ok (.iinc 2 1, 3) := by decide +kernel
theorem dX9_spread_57 : decode cX9_spread 57 = .ok (.goto (-53), 3) := by decide +kernel
theorem dX9_spread_60 : decode cX9_spread 60 = .ok (.iload_n 1, 1) := by decide +kernel
theorem dX9_spread_61 : decode cX9_spread 61 = .ok (.ireturn, 1) := by decide +kernel
theorem dX9_partOf_0 : decode cX9_partOf 0 = .ok (.iconst 1, 1) := by decide +kernel
theorem dX9_partOf_1 : decode cX9_partOf 1 = .ok (.iload_n 1, 1) := by decide +kernel
theorem dX9_partOf_2 : decode cX9_partOf 2 = .ok (.ishl, 1) := by decide +kernel
theorem dX9_partOf_3 : decode cX9_partOf 3 = .ok (.istore_n 2, 1) := by decide +kernel
theorem dX9_partOf_4 : decode cX9_partOf 4 = .ok (.iconst 0, 1) := by decide +kernel
theorem dX9_partOf_5 : decode cX9_partOf 5 = .ok (.istore_n 3, 1) := by decide +kernel
theorem dX9_partOf_6 : decode cX9_partOf 6 = .ok (.iload_n 2, 1) := by decide +kernel
theorem dX9_partOf_7 : decode cX9_partOf 7 = .ok (.iload_n 3, 1) := by decide +kernel
theorem dX9_partOf_8 : decode cX9_partOf 8 = .ok (.if_icmp .eq 15, 3) := by decide +kernel
theorem dX9_partOf_11 : decode cX9_partOf 11 = .ok (.iload_n 2, 1) := by decide +kernel
theorem dX9_partOf_12 : decode cX9_partOf 12 = .ok (.istore_n 3, 1) := by decide +kernel
theorem dX9_partOf_13 : decode cX9_partOf 13 = .ok (.iload_n 3, 1) := by decide +kernel
theorem dX9_partOf_14 : decode cX9_partOf 14 = .ok (.invokestatic 140, 3) := by decide +kernel
theorem dX9_partOf_17 : decode cX9_partOf 17 = .ok (.iload_n 0, 1) := by decide +kernel
theorem dX9_partOf_18 : decode cX9_partOf 18 = .ok (.iand, 1) := by decide +kernel
theorem dX9_partOf_19 : decode cX9_partOf 19 = .ok (.istore_n 2, 1) := by decide +kernel
theorem dX9_partOf_20 : decode cX9_partOf 20 = .ok (.goto (-14), 3) := by decide +kernel
theorem dX9_partOf_23 : decode cX9_partOf 23 = .ok (.iload_n 2, 1) := by decide +kernel
theorem dX9_partOf_24 : decode cX9_partOf 24 = .ok (.ireturn, 1) := by decide +kernel
theorem dX9_partsOf_0 : decode cX9_partsOf 0 = .ok (.iload_n 0, 1) := by decide +kernel
theorem dX9_partsOf_1 : decode cX9_partsOf 1 = .ok (.istore_n 1, 1) := by decide +kernel
theorem dX9_partsOf_2 : decode cX9_partsOf 2 = .ok (.iconst 0, 1) := by decide +kernel
theorem dX9_partsOf_3 : decode cX9_partsOf 3 = .ok (.istore_n 2, 1) := by decide +kernel
theorem dX9_partsOf_4 : decode cX9_partsOf 4 = .ok (.iconst 0, 1) := by decide +kernel
theorem dX9_partsOf_5 : decode cX9_partsOf 5 = .ok (.istore_n 3, 1) := by decide +kernel
theorem dX9_partsOf_6 : decode cX9_partsOf 6 = .ok (.iload_n 3, 1) := by decide +kernel
theorem dX9_partsOf_7 : decode cX9_partsOf 7 = .ok (.bipush 30, 2) := by decide +kernel
theorem dX9_partsOf_9 : decode cX9_partsOf 9 = .ok (.if_icmp .ge 31, 3) := by decide +kernel
theorem dX9_partsOf_12 : decode cX9_partsOf 12 = .ok (.iload_n 1, 1) := by decide +kernel
theorem dX9_partsOf_13 : decode cX9_partsOf 13 = .ok (.iload_n 3, 1) := by decide +kernel
theorem dX9_partsOf_14 : decode cX9_partsOf 14 = .ok (.ishr, 1) := by decide +kernel
theorem dX9_partsOf_15 : decode cX9_partsOf 15 = .ok (.iconst 1, 1) := by decide +kernel
theorem dX9_partsOf_16 : decode cX9_partsOf 16 = .ok (.iand, 1) := by decide +kernel
theorem dX9_partsOf_17 : decode cX9_partsOf 17 = .ok (.iconst 1, 1) := by decide +kernel
theorem dX9_partsOf_18 : decode cX9_partsOf 18 = .ok (.if_icmp .ne 16, 3) := by decide +kernel
theorem dX9_partsOf_21 : decode cX9_partsOf 21 = .ok (.iload_n 1, 1) := by decide +kernel
theorem dX9_partsOf_22 : decode cX9_partsOf 22 = .ok (.iload_n 0, 1) := by decide +kernel
theorem dX9_partsOf_23 : decode cX9_partsOf 23 = .ok (.iload_n 3, 1) := by decide +kernel
theorem dX9_partsOf_24 : decode cX9_partsOf 24 = .ok (.invokestatic 143, 3) := by decide +kernel
theorem dX9_partsOf_27 : decode cX9_partsOf 27 = .ok (.iconst (-1), 1) := by decide +kernel
theorem dX9_partsOf_28 : decode cX9_partsOf 28 = .ok (.ixor, 1) := by decide +kernel
theorem dX9_partsOf_29 : decode cX9_partsOf 29 = .ok (.iand, 1) := by decide +kernel
theorem dX9_partsOf_30 : decode cX9_partsOf 30 = .ok (.istore_n 1, 1) := by decide +kernel
theorem dX9_partsOf_31 : decode cX9_partsOf 31 = .ok (.iinc 2 1, 3) := by decide +kernel
theorem dX9_partsOf_34 : decode cX9_partsOf 34 = .ok (.iinc 3 1, 3) := by decide +kernel
theorem dX9_partsOf_37 : decode cX9_partsOf 37 = .ok (.goto (-31), 3) := by decide +kernel
theorem dX9_partsOf_40 : decode cX9_partsOf 40 = .ok (.iload_n 2, 1) := by decide +kernel
theorem dX9_partsOf_41 : decode cX9_partsOf 41 = .ok (.ireturn, 1) := by decide +kernel
theorem dX9_isAhead_0 : decode cX9_isAhead 0 = .ok (.iload_n 0, 1) := by decide +kernel
theorem dX9_isAhead_1 : decode cX9_isAhead 1 = .ok (.i2l, 1) := by decide +kernel
theorem dX9_isAhead_2 : decode cX9_isAhead 2 = .ok (.lconst 0, 1) := by decide +kernel
theorem dX9_isAhead_3 : decode cX9_isAhead 3 = .ok (.ldc2_w 146, 3) := by decide +kernel
theorem dX9_isAhead_6 : decode cX9_isAhead 6 = .ok (.invokestatic 65, 3) := by decide +kernel
theorem dX9_isAhead_9 : decode cX9_isAhead 9 = .ok (.ireturn, 1) := by decide +kernel
theorem dX9_sky_0 : decode cX9_sky 0 = .ok (.iload_n 1, 1) := by decide +kernel
theorem dX9_sky_1 : decode cX9_sky 1 = .ok (.invokestatic 148, 3) := by decide +kernel
theorem dX9_sky_4 : decode cX9_sky 4 = .ok (.ifCond .eq 15, 3) := by decide +kernel
theorem dX9_sky_7 : decode cX9_sky 7 = .ok (.iload_n 2, 1) := by decide +kernel
theorem dX9_sky_8 : decode cX9_sky 8 = .ok (.i2l, 1) := by decide +kernel
theorem dX9_sky_9 : decode cX9_sky 9 = .ok (.lconst 0, 1) := by decide +kernel
theorem dX9_sky_10 : decode cX9_sky 10 = .ok (.ldc2_w 151, 3) := by decide +kernel
theorem dX9_sky_13 : decode cX9_sky 13 = .ok (.invokestatic 65, 3) := by decide +kernel
theorem dX9_sky_16 : decode cX9_sky 16 = .ok (.ifCond .ne 6, 3) := by decide +kernel
theorem dX9_sky_19 : decode cX9_sky 19 = .ok (.ldc 98, 2) := by decide +kernel
theorem dX9_sky_21 : decode cX9_sky 21 = .ok (.ireturn, 1) := by decide +kernel
theorem dX9_sky_22 : decode cX9_sky 22 = .ok (.iload_n 2, 1) := by decide +kernel
theorem dX9_sky_23 : decode cX9_sky 23 = .ok (.ifCond .ne 11, 3) := by decide +kernel
theorem dX9_sky_26 : decode cX9_sky 26 = .ok (.aload_n 0, 1) := by decide +kernel
theorem dX9_sky_27 : decode cX9_sky 27 = .ok (.iload_n 1, 1) := by decide +kernel
theorem dX9_sky_28 : decode cX9_sky 28 = .ok (.invokevirtual 87, 3) := by decide +kernel
theorem dX9_sky_31 : decode cX9_sky 31 = .ok (.goto 27, 3) := by decide +kernel
theorem dX9_sky_34 : decode cX9_sky 34 = .ok (.iload_n 2, 1) := by decide +kernel
theorem dX9_sky_35 : decode cX9_sky 35 = .ok (.iconst 1, 1) := by decide +kernel
theorem dX9_sky_36 : decode cX9_sky 36 = .ok (.if_icmp .ne 14, 3) := by decide +kernel
theorem dX9_sky_39 : decode cX9_sky 39 = .ok (.aload_n 0, 1) := by decide +kernel
theorem dX9_sky_40 : decode cX9_sky 40 = .ok (.iload_n 1, 1) := by decide +kernel
theorem dX9_sky_41 : decode cX9_sky 41 = .ok (.invokevirtual 131, 3) := by decide +kernel
theorem dX9_sky_44 : decode cX9_sky 44 = .ok (.invokestatic 134, 3) := by decide +kernel
theorem dX9_sky_47 : decode cX9_sky 47 = .ok (.goto 11, 3) := by decide +kernel
theorem dX9_sky_50 : decode cX9_sky 50 = .ok (.aload_n 0, 1) := by decide +kernel
theorem dX9_sky_51 : decode cX9_sky 51 = .ok (.iload_n 1, 1) := by decide +kernel
theorem dX9_sky_52 : decode cX9_sky 52 = .ok (.invokevirtual 131, 3) := by decide +kernel
theorem dX9_sky_55 : decode cX9_sky 55 = .ok (.invokestatic 153, 3) := by decide +kernel
theorem dX9_sky_58 : decode cX9_sky 58 = .ok (.ireturn, 1) := by decide +kernel
theorem dX9_worst_0 : decode cX9_worst 0 = .ok (.iload_n 1, 1) := by decide +kernel
theorem dX9_worst_1 : decode cX9_worst 1 = .ok (.i2l, 1) := by decide +kernel
theorem dX9_worst_2 : decode cX9_worst 2 = .ok (.lconst 1, 1) := by decide +kernel
theorem dX9_worst_3 : decode cX9_worst 3 = .ok (.ldc2_w 120, 3) := by decide +kernel
theorem dX9_worst_6 : decode cX9_worst 6 = .ok (.invokestatic 65, 3) := by decide +kernel
theorem dX9_worst_9 : decode cX9_worst 9 = .ok (.ifCond .eq 13, 3) := by decide +kernel
theorem dX9_worst_12 : decode cX9_worst 12 = .ok (.iload_n 2, 1) := by decide +kernel
theorem dX9_worst_13 : decode cX9_worst 13 = .ok (.i2l, 1) := by decide +kernel
theorem dX9_worst_14 : decode cX9_worst 14 = .ok (.lconst 0, 1) := by decide +kernel
theorem dX9_worst_15 : decode cX9_worst 15 = .ok (.lconst 1, 1) := by decide +kernel
theorem dX9_worst_16 : decode cX9_worst 16 = .ok (.invokestatic 65, 3) := by decide +kernel
theorem dX9_worst_19 : decode cX9_worst 19 = .ok (.ifCond .ne 6, 3) := by decide +kernel
theorem dX9_worst_22 : decode cX9_worst 22 = .ok (.ldc 98, 2) := by decide +kernel
theorem dX9_worst_24 : decode cX9_worst 24 = .ok (.ireturn, 1) := by decide +kernel
theorem dX9_worst_25 : decode cX9_worst 25 = .ok (.iconst 0, 1) := by decide +kernel
theorem dX9_worst_26 : decode cX9_worst 26 = .ok (.istore_n 3, 1) := by decide +kernel
theorem dX9_worst_27 : decode cX9_worst 27 = .ok (.bipush 31, 2) := by decide +kernel
theorem dX9_worst_29 : decode cX9_worst 29 = .ok (.istore 4, 2) := by decide +kernel
theorem dX9_worst_31 : decode cX9_worst 31 = .ok (.iconst 0, 1) := by decide +kernel
theorem dX9_worst_32 : decode cX9_worst 32 = .ok (.istore 5, 2) := by decide +kernel
theorem dX9_worst_34 : decode cX9_worst 34 = .ok (.iload 5, 2) := by decide +kernel
theorem dX9_worst_36 : decode cX9_worst 36 = .ok (.iload_n 1, 1) := by decide +kernel
theorem dX9_worst_37 : decode cX9_worst 37 = .ok (.if_icmp .ge 50, 3) := by decide +kernel
theorem dX9_worst_40 : decode cX9_worst 40 = .ok (.aload_n 0, 1) := by decide +kernel
theorem dX9_worst_41 : decode cX9_worst 41 = .ok (.iload 5, 2) := by decide +kernel
theorem dX9_worst_43 : decode cX9_worst 43 = .ok (.invokevirtual 131, 3) := by decide +kernel
theorem dX9_worst_46 : decode cX9_worst 46 = .ok (.invokestatic 134, 3) := by decide +kernel
theorem dX9_worst_49 : decode cX9_worst 49 = .ok (.istore 6, 2) := by decide +kernel
theorem dX9_worst_51 : decode cX9_worst 51 = .ok (.iload 6, 2) := by decide +kernel
theorem dX9_worst_53 : decode cX9_worst 53 = .ok (.iload 4, 2) := by decide +kernel
theorem dX9_worst_55 : decode cX9_worst 55 = .ok (.if_icmp .ge 8, 3) := by decide +kernel
theorem dX9_worst_58 : decode cX9_worst 58 = .ok (.iload 5, 2) := by decide +kernel
theorem dX9_worst_60 : decode cX9_worst 60 = .ok (.goto 4, 3) := by decide +kernel
theorem dX9_worst_63 : decode cX9_worst 63 = .ok (.iload_n 3, 1) := by decide +kernel
theorem dX9_worst_64 : decode cX9_worst 64 = .ok (.istore_n 3, 1) := by decide +kernel
theorem dX9_worst_65 : decode cX9_worst 65 = .ok (.iload 6, 2) := by decide +kernel
theorem dX9_worst_67 : decode cX9_worst 67 = .ok (.iload 4, 2) := by decide +kernel
theorem dX9_worst_69 : decode cX9_worst 69 = .ok (.if_icmp .ge 8, 3) := by decide +kernel
theorem dX9_worst_72 : decode cX9_worst 72 = .ok (.iload 6, 2) := by decide +kernel
theorem dX9_worst_74 : decode cX9_worst 74 = .ok (.goto 5, 3) := by decide +kernel
theorem dX9_worst_77 : decode cX9_worst 77 = .ok (.iload 4, 2) := by decide +kernel
theorem dX9_worst_79 : decode cX9_worst 79 = .ok (.istore 4, 2) := by decide +kernel
theorem dX9_worst_81 : decode cX9_worst 81 = .ok (.iinc 5 1, 3) := by decide +kernel
theorem dX9_worst_84 : decode cX9_worst 84 = .ok (.goto (-50), 3) := by decide +kernel
theorem dX9_worst_87 : decode cX9_worst 87 = .ok (.iload_n 2, 1) := by decide +kernel
theorem dX9_worst_88 : decode cX9_worst 88 = .ok (.ifCond .ne 7, 3) := by decide +kernel
theorem dX9_worst_91 : decode cX9_worst 91 = .ok (.iload_n 3, 1) := by decide +kernel
theorem dX9_worst_92 : decode cX9_worst 92 = .ok (.goto 5, 3) := by decide +kernel
theorem dX9_worst_95 : decode cX9_worst 95 = .ok (.iload 4, 2) := by decide +kernel
theorem dX9_worst_97 : decode cX9_worst 97 = .ok (.ireturn, 1) := by decide +kernel
theorem dX9_isDry_0 : decode cX9_isDry 0 = .ok (.aload_n 0, 1) := by decide +kernel
theorem dX9_isDry_1 : decode cX9_isDry 1 = .ok (.iload_n 1, 1) := by decide +kernel
theorem dX9_isDry_2 : decode cX9_isDry 2 = .ok (.invokevirtual 78, 3) := by decide +kernel
theorem dX9_isDry_5 : decode cX9_isDry 5 = .ok (.aload_n 0, 1) := by decide +kernel
theorem dX9_isDry_6 : decode cX9_isDry 6 = .ok (.iload_n 2, 1) := by decide +kernel
theorem dX9_isDry_7 : decode cX9_isDry 7 = .ok (.invokevirtual 87, 3) := by decide +kernel
theorem dX9_isDry_10 : decode cX9_isDry 10 = .ok (.if_icmp .le 7, 3) := by decide +kernel
theorem dX9_isDry_13 : decode cX9_isDry 13 = .ok (.iconst 1, 1) := by decide +kernel
theorem dX9_isDry_14 : decode cX9_isDry 14 = .ok (.goto 4, 3) := by decide +kernel
theorem dX9_isDry_17 : decode cX9_isDry 17 = .ok (.iconst 0, 1) := by decide +kernel
theorem dX9_isDry_18 : decode cX9_isDry 18 = .ok (.ireturn, 1) := by decide +kernel
theorem dX9_dryFor_0 : decode cX9_dryFor 0 = .ok (.iload_n 1, 1) := by decide +kernel
theorem dX9_dryFor_1 : decode cX9_dryFor 1 = .ok (.invokestatic 90, 3) := by decide +kernel
theorem dX9_dryFor_4 : decode cX9_dryFor 4 = .ok (.ifCond .ne 6, 3) := by decide +kernel
theorem dX9_dryFor_7 : decode cX9_dryFor 7 = .ok (.ldc 98, 2) := by decide +kernel
theorem dX9_dryFor_9 : decode cX9_dryFor 9 = .ok (.ireturn, 1) := by decide +kernel
theorem dX9_dryFor_10 : decode cX9_dryFor 10 = .ok (.iconst 0, 1) := by decide +kernel
theorem dX9_dryFor_11 : decode cX9_dryFor 11 = .ok (.istore_n 2, 1) := by decide +kernel
theorem dX9_dryFor_12 : decode cX9_dryFor 12 = .ok (.iload_n 2, 1) := by decide +kernel
theorem dX9_dryFor_13 : decode cX9_dryFor 13 = .ok (.bipush 48, 2) := by decide +kernel
theorem dX9_dryFor_15 : decode cX9_dryFor 15 = .ok (.if_icmp .ge 18, 3) := by decide +kernel
theorem dX9_dryFor_18 : decode cX9_dryFor 18 = .ok (.aload_n 0, 1) := by decide +kernel
theorem dX9_dryFor_19 : decode cX9_dryFor 19 = .ok (.iload_n 1, 1) := by decide +kernel
theorem dX9_dryFor_20 : decode cX9_dryFor 20 = .ok (.iload_n 2, 1) := by decide +kernel
theorem dX9_dryFor_21 : decode cX9_dryFor 21 = .ok (.invokevirtual 156, 3) := by decide +kernel
theorem dX9_dryFor_24 : decode cX9_dryFor 24 = .ok (.ifCond .eq 9, 3) := by decide +kernel
theorem dX9_dryFor_27 : decode cX9_dryFor 27 = .ok (.iinc 2 1, 3) := by decide +kernel
theorem dX9_dryFor_30 : decode cX9_dryFor 30 = .ok (.goto (-18), 3) := by decide +kernel
theorem dX9_dryFor_33 : decode cX9_dryFor 33 = .ok (.iload_n 2, 1) := by decide +kernel
theorem dX9_dryFor_34 : decode cX9_dryFor 34 = .ok (.ireturn, 1) := by decide +kernel
theorem dX9_window_0 : decode cX9_window 0 = .ok (.iload_n 1, 1) := by decide +kernel
theorem dX9_window_1 : decode cX9_window 1 = .ok (.invokestatic 90, 3) := by decide +kernel
theorem dX9_window_4 : decode cX9_window 4 = .ok (.ifCond .eq 15, 3) := by decide +kernel
theorem dX9_window_7 : decode cX9_window 7 = .ok (.iload_n 2, 1) := by decide +kernel
theorem dX9_window_8 : decode cX9_window 8 = .ok (.i2l, 1) := by decide +kernel
theorem dX9_window_9 : decode cX9_window 9 = .ok (.lconst 1, 1) := by decide +kernel
theorem dX9_window_10 : decode cX9_window 10 = .ok (.ldc2_w 159, 3) := by decide +kernel
theorem dX9_window_13 : decode cX9_window 13 = .ok (.invokestatic 65, 3) := by decide +kernel
theorem dX9_window_16 : decode cX9_window 16 = .ok (.ifCond .ne 6, 3) := by decide +kernel
theorem dX9_window_19 : decode cX9_window 19 = .ok (.ldc 98, 2) := by decide +kernel
theorem dX9_window_21 : decode cX9_window 21 = .ok (.ireturn, 1) := by decide +kernel
theorem dX9_window_22 : decode cX9_window 22 = .ok (.iconst 0, 1) := by decide +kernel
theorem dX9_window_23 : decode cX9_window 23 = .ok (.istore_n 3, 1) := by decide +kernel
theorem dX9_window_24 : decode cX9_window 24 = .ok (.iconst 0, 1) := by decide +kernel
theorem dX9_window_25 : decode cX9_window 25 = .ok (.istore 4, 2) := by decide +kernel
theorem dX9_window_27 : decode cX9_window 27 = .ok (.iload 4, 2) := by decide +kernel
theorem dX9_window_29 : decode cX9_window 29 = .ok (.bipush 99, 2) := by decide +kernel
theorem dX9_window_31 : decode cX9_window 31 = .ok (.iload_n 2, 1) := by decide +kernel
theorem dX9_window_32 : decode cX9_window 32 = .ok (.iadd, 1) := by decide +kernel
theorem dX9_window_33 : decode cX9_window 33 = .ok (.if_icmp .ge 39, 3) := by decide +kernel
theorem dX9_window_36 : decode cX9_window 36 = .ok (.aload_n 0, 1) := by decide +kernel
theorem dX9_window_37 : decode cX9_window 37 = .ok (.iload_n 1, 1) := by decide +kernel
theorem dX9_window_38 : decode cX9_window 38 = .ok (.iload 4, 2) := by decide +kernel
theorem dX9_window_40 : decode cX9_window 40 = .ok (.invokevirtual 156, 3) := by decide +kernel
theorem dX9_window_43 : decode cX9_window 43 = .ok (.ifCond .eq 9, 3) := by decide +kernel
theorem dX9_window_46 : decode cX9_window 46 = .ok (.iload_n 3, 1) := by decide +kernel
theorem dX9_window_47 : decode cX9_window 47 = .ok (.iconst 1, 1) := by decide +kernel
theorem dX9_window_48 : decode cX9_window 48 = .ok (.iadd, 1) := by decide +kernel
theorem dX9_window_49 : decode cX9_window 49 = .ok (.goto 4, 3) := by decide +kernel
theorem dX9_window_52 : decode cX9_window 52 = .ok (.iconst 0, 1) := by decide +kernel
theorem dX9_window_53 : decode cX9_window 53 = .ok (.istore_n 3, 1) := by decide +kernel
theorem dX9_window_54 : decode cX9_window 54 = .ok (.iload_n 3, 1) := by decide +kernel
theorem dX9_window_55 : decode cX9_window 55 = .ok (.iload_n 2, 1) := by decide +kernel
theorem dX9_window_56 : decode cX9_window 56 = .ok (.if_icmp .lt 10, 3) := by decide +kernel
theorem dX9_window_59 : decode cX9_window 59 = .ok (.iload 4, 2) := by decide +kernel
theorem dX9_window_61 : decode cX9_window 61 = .ok (.iload_n 2, 1) := by decide +kernel
theorem dX9_window_62 : decode cX9_window 62 = .ok (.isub, 1) := by decide +kernel
theorem dX9_window_63 : decode cX9_window 63 = .ok (.iconst 1, 1) := by decide +kernel
theorem dX9_window_64 : decode cX9_window 64 = .ok (.iadd, 1) := by decide +kernel
theorem dX9_window_65 : decode cX9_window 65 = .ok (.ireturn, 1) := by decide +kernel
theorem dX9_window_66 : decode cX9_window 66 = .ok (.iinc 4 1, 3) := by decide +kernel
theorem dX9_window_69 : decode cX9_window 69 = .ok (.goto (-42), 3) := by decide +kernel
theorem dX9_window_72 : decode cX9_window 72 = .ok (.ldc 64, 2) := by decide +kernel
theorem dX9_window_74 : decode cX9_window 74 = .ok (.ireturn, 1) := by decide +kernel
theorem dX9_ownsAt_0 : decode cX9_ownsAt 0 = .ok (.aload_n 0, 1) := by decide +kernel
theorem dX9_ownsAt_1 : decode cX9_ownsAt 1 = .ok (.iload_n 2, 1) := by decide +kernel
theorem dX9_ownsAt_2 : decode cX9_ownsAt 2 = .ok (.invokevirtual 131, 3) := by decide +kernel
theorem dX9_ownsAt_5 : decode cX9_ownsAt 5 = .ok (.istore_n 3, 1) := by decide +kernel
theorem dX9_ownsAt_6 : decode cX9_ownsAt 6 = .ok (.iconst 0, 1) := by decide +kernel
theorem dX9_ownsAt_7 : decode cX9_ownsAt 7 = .ok (.istore 4, 2) := by decide +kernel
theorem dX9_ownsAt_9 : decode cX9_ownsAt 9 = .ok (.iconst 0, 1) := by decide +kernel
theorem dX9_ownsAt_10 : decode cX9_ownsAt 10 = .ok (.istore 5, 2) := by decide +kernel
theorem dX9_ownsAt_12 : decode cX9_ownsAt 12 = .ok (.iload 5, 2) := by decide +kernel
theorem dX9_ownsAt_14 : decode cX9_ownsAt 14 = .ok (.bipush 30, 2) := by decide +kernel
theorem dX9_ownsAt_16 : decode cX9_ownsAt 16 = .ok (.if_icmp .ge 35, 3) := by decide +kernel
theorem dX9_ownsAt_19 : decode cX9_ownsAt 19 = .ok (.iload 4, 2) := by decide +kernel
theorem dX9_ownsAt_21 : decode cX9_ownsAt 21 = .ok (.aload_n 0, 1) := by decide +kernel
theorem dX9_ownsAt_22 : decode cX9_ownsAt 22 = .ok (.iload 5, 2) := by decide +kernel
theorem dX9_ownsAt_24 : decode cX9_ownsAt 24 = .ok (.iconst 3, 1) := by decide +kernel
theorem dX9_ownsAt_25 : decode cX9_ownsAt 25 = .ok (.invokevirtual 70, 3) := by decide +kernel
theorem dX9_ownsAt_28 : decode cX9_ownsAt 28 = .ok (.iload_n 1, 1) := by decide +kernel
theorem dX9_ownsAt_29 : decode cX9_ownsAt 29 = .ok (.if_icmp .ne 12, 3) := by decide +kernel
theorem dX9_ownsAt_32 : decode cX9_ownsAt 32 = .ok (.iload_n 3, 1) := by decide +kernel
theorem dX9_ownsAt_33 : decode cX9_ownsAt 33 = .ok (.iload 5, 2) := by decide +kernel
theorem dX9_ownsAt_35 : decode cX9_ownsAt 35 = .ok (.ishr, 1) := by decide +kernel
theorem dX9_ownsAt_36 : decode cX9_ownsAt 36 = .ok (.iconst 1, 1) := by decide +kernel
theorem dX9_ownsAt_37 : decode cX9_ownsAt 37 = .ok (.iand, 1) := by decide +kernel
theorem dX9_ownsAt_38 : decode cX9_ownsAt 38 = .ok (.goto 4, 3) := by decide +kernel
theorem dX9_ownsAt_41 : decode cX9_ownsAt 41 = .ok (.iconst 0, 1) := by decide +kernel
theorem dX9_ownsAt_42 : decode cX9_ownsAt 42 = .ok (.iadd, 1) := by decide +kernel
theorem dX9_ownsAt_43 : decode cX9_ownsAt 43 = .ok (.istore 4, 2) := by decide +kernel
theorem dX9_ownsAt_45 : decode cX9_ownsAt 45 = .ok (.iinc 5 1, 3) := by decide +kernel
theorem dX9_ownsAt_48 : decode cX9_ownsAt 48 = .ok (.goto (-36), 3) := by decide +kernel
theorem dX9_ownsAt_51 : decode cX9_ownsAt 51 = .ok (.iload 4, 2) := by decide +kernel
theorem dX9_ownsAt_53 : decode cX9_ownsAt 53 = .ok (.ireturn, 1) := by decide +kernel
theorem dX9_owns_0 : decode cX9_owns 0 = .ok (.iload_n 1, 1) := by decide +kernel
theorem dX9_owns_1 : decode cX9_owns 1 = .ok (.i2l, 1) := by decide +kernel
theorem dX9_owns_2 : decode cX9_owns 2 = .ok (.lconst 0, 1) := by decide +kernel
theorem dX9_owns_3 : decode cX9_owns 3 = .ok (.ldc2_w 122, 3) := by decide +kernel
theorem dX9_owns_6 : decode cX9_owns 6 = .ok (.invokestatic 65, 3) := by decide +kernel
theorem dX9_owns_9 : decode cX9_owns 9 = .ok (.ifCond .eq 19, 3) := by decide +kernel
theorem dX9_owns_12 : decode cX9_owns 12 = .ok (.iload_n 2, 1) := by decide +kernel
theorem dX9_owns_13 : decode cX9_owns 13 = .ok (.invokestatic 148, 3) := by decide +kernel
theorem dX9_owns_16 : decode cX9_owns 16 = .ok (.ifCond .eq 12, 3) := by decide +kernel
theorem dX9_owns_19 : decode cX9_owns 19 = .ok (.aload_n 0, 1) := by decide +kernel
theorem dX9_owns_20 : decode cX9_owns 20 = .ok (.iload_n 1, 1) := by decide +kernel
theorem dX9_owns_21 : decode cX9_owns 21 = .ok (.iload_n 2, 1) := by decide +kernel
theorem dX9_owns_22 : decode cX9_owns 22 = .ok (.invokevirtual 161, 3) := by decide +kernel
theorem dX9_owns_25 : decode cX9_owns 25 = .ok (.goto 5, 3) := by decide +kernel
theorem dX9_owns_28 : decode cX9_owns 28 = .ok (.ldc 98, 2) := by decide +kernel
theorem dX9_owns_30 : decode cX9_owns 30 = .ok (.ireturn, 1) := by decide +kernel
theorem dX9_richest_0 : decode cX9_richest 0 = .ok (.iload_n 1, 1) := by decide +kernel
theorem dX9_richest_1 : decode cX9_richest 1 = .ok (.i2l, 1) := by decide +kernel
theorem dX9_richest_2 : decode cX9_richest 2 = .ok (.lconst 0, 1) := by decide +kernel
theorem dX9_richest_3 : decode cX9_richest 3 = .ok (.lconst 1, 1) := by decide +kernel
theorem dX9_richest_4 : decode cX9_richest 4 = .ok (.invokestatic 65, 3) := by decide +kernel
theorem dX9_richest_7 : decode cX9_richest 7 = .ok (.ifCond .ne 6, 3) := by decide +kernel
theorem dX9_richest_10 : decode cX9_richest 10 = .ok (.ldc 98, 2) := by decide +kernel
theorem dX9_richest_12 : decode cX9_richest 12 = .ok (.ireturn, 1) := by decide +kernel
theorem dX9_richest_13 : decode cX9_richest 13 = .ok (.iconst 0, 1) := by decide +kernel
theorem dX9_richest_14 : decode cX9_richest 14 = .ok (.istore_n 2, 1) := by decide +kernel
theorem dX9_richest_15 : decode cX9_richest 15 = .ok (.iload_n 2, 1) := by decide +kernel
theorem dX9_richest_16 : decode cX9_richest 16 = .ok (.bipush 8, 2) := by decide +kernel
theorem dX9_richest_18 : decode cX9_richest 18 = .ok (.if_icmp .ge 16, 3) := by decide +kernel
theorem dX9_richest_21 : decode cX9_richest 21 = .ok (.aload_n 0, 1) := by decide +kernel
theorem dX9_richest_22 : decode cX9_richest 22 = .ok (.getfield 43, 3) := by decide +kernel
theorem dX9_richest_25 : decode cX9_richest 25 = .ok (.iload_n 2, 1) := by decide +kernel
theorem dX9_richest_26 : decode cX9_richest 26 = .ok (.iconst 0, 1) := by decide +kernel
theorem dX9_richest_27 : decode cX9_richest 27 = .ok (.iastore, 1) := by decide +kernel
theorem dX9_richest_28 : decode cX9_richest 28 = .ok (.iinc 2 1, 3) := by decide +kernel
theorem dX9_richest_31 : decode cX9_richest 31 = .ok (.goto (-16), 3) := by decide +kernel
theorem dX9_richest_34 : decode cX9_richest 34 = .ok (.iconst 0, 1) := by decide +kernel
theorem dX9_richest_35 : decode cX9_richest 35 = .ok (.istore_n 2, 1) := by decide +kernel
theorem dX9_richest_36 : decode cX9_richest 36 = .ok (.iload_n 2, 1) := by decide +kernel
theorem dX9_richest_37 : decode cX9_richest 37 = .ok (.bipush 24, 2) := by decide +kernel
theorem dX9_richest_39 : decode cX9_richest 39 = .ok (.if_icmp .ge 62, 3) := by decide +kernel
theorem dX9_richest_42 : decode cX9_richest 42 = .ok (.aload_n 0, 1) := by decide +kernel
theorem dX9_richest_43 : decode cX9_richest 43 = .ok (.iload_n 2, 1) := by decide +kernel
theorem dX9_richest_44 : decode cX9_richest 44 = .ok (.invokevirtual 131, 3) := by decide +kernel
theorem dX9_richest_47 : decode cX9_richest 47 = .ok (.istore_n 3, 1) := by decide +kernel
theorem dX9_richest_48 : decode cX9_richest 48 = .ok (.iconst 0, 1) := by decide +kernel
theorem dX9_richest_49 : decode cX9_richest 49 = .ok (.istore 4, 2) := by decide +kernel
theorem dX9_richest_51 : decode cX9_richest 51 = .ok (.iload 4, 2) := by decide +kernel
theorem dX9_richest_53 : decode cX9_richest 53 = .ok (.bipush 30, 2) := by decide +kernel
theorem dX9_richest_55 : decode cX9_richest 55 = .ok (.if_icmp .ge 40, 3) := by decide +kernel
theorem dX9_richest_58 : decode cX9_richest 58 = .ok (.aload_n 0, 1) := by decide +kernel
theorem dX9_richest_59 : decode cX9_richest 59 = .ok (.iload 4, 2) := by decide +kernel
theorem dX9_richest_61 : decode cX9_richest 61 = .ok (.iconst 3, 1) := by decide +kernel
theorem dX9_richest_62 : decode cX9_richest 62 = .ok (.invokevirtual 70, 3) := by decide +kernel
theorem dX9_richest_65 : decode cX9_richest 65 = .ok (.ifCond .lt 24, 3) := by decide +kernel
theorem dX9_richest_68 : decode cX9_richest 68 = .ok (.aload_n 0, 1) := by decide +kernel
theorem dX9_richest_69 : decode cX9_richest 69 = .ok (.getfield 43, 3) := by decide +kernel
theorem dX9_richest_72 : decode cX9_richest 72 = .ok (.aload_n 0, 1) := by decide +kernel
theorem dX9_richest_73 : decode cX9_richest 73 = .ok (.iload 4, 2) := by decide +kernel
theorem dX9_richest_75 : decode cX9_richest 75 = .ok (.iconst 3, 1) := by decide +kernel
theorem dX9_richest_76 : decode cX9_richest 76 = .ok (.invokevirtual 70, 3) := by decide +kernel
theorem dX9_richest_79 : decode cX9_richest 79 = .ok (.dup2, 1) := by decide +kernel
theorem dX9_richest_80 : decode cX9_richest 80 = .ok (.iaload, 1) := by decide +kernel
theorem dX9_richest_81 : decode cX9_richest 81 = .ok (.iload_n 3, 1) := by decide +kernel
theorem dX9_richest_82 : decode cX9_richest 82 = .ok (.iload 4, 2) := by decide +kernel
theorem dX9_richest_84 : decode cX9_richest 84 = .ok (.ishr, 1) := by decide +kernel
theorem dX9_richest_85 : decode cX9_richest 85 = .ok (.iconst 1, 1) := by decide +kernel
theorem dX9_richest_86 : decode cX9_richest 86 = .ok (.iand, 1) := by decide +kernel
theorem dX9_richest_87 : decode cX9_richest 87 = .ok (.iadd, 1) := by decide +kernel
theorem dX9_richest_88 : decode cX9_richest 88 = .ok (.iastore, 1) := by decide +kernel
theorem dX9_richest_89 : decode cX9_richest 89 = .ok (.iinc 4 1, 3) := by decide +kernel
theorem dX9_richest_92 : decode cX9_richest 92 = .ok (.goto (-41), 3) := by decide +kernel
theorem dX9_richest_95 : decode cX9_richest 95 = .ok (.iinc 2 1, 3) := by decide +kernel
theorem dX9_richest_98 : decode cX9_richest 98 = .ok (.goto (-62), 3) := by decide +kernel
theorem dX9_richest_101 : decode cX9_richest 101 = .ok (.iconst 0, 1) := by decide +kernel
theorem dX9_richest_102 : decode cX9_richest 102 = .ok (.istore_n 2, 1) := by decide +kernel
theorem dX9_richest_103 : decode cX9_richest 103 = .ok (.iconst 1, 1) := by decide +kernel
theorem dX9_richest_104 : decode cX9_richest 104 = .ok (.istore_n 3, 1) := by decide +kernel
theorem dX9_richest_105 : decode cX9_richest 105 = .ok (.iload_n 3, 1) := by decide +kernel
theorem dX9_richest_106 : decode cX9_richest 106 = .ok (.bipush 8, 2) := by decide +kernel
theorem dX9_richest_108 : decode cX9_richest 108 = .ok (.if_icmp .ge 30, 3) := by decide +kernel
theorem dX9_richest_111 : decode cX9_richest 111 = .ok (.aload_n 0, 1) := by decide +kernel
theorem dX9_richest_112 : decode cX9_richest 112 = .ok (.getfield 43, 3) := by decide +kernel
theorem dX9_richest_115 : decode cX9_richest 115 = .ok (.iload_n 3, 1) := by decide +kernel
theorem dX9_richest_116 : decode cX9_richest 116 = .ok (.iaload, 1) := by decide +kernel
theorem dX9_richest_117 : decode cX9_richest 117 = .ok (.aload_n 0, 1) := by decide +kernel
theorem dX9_richest_118 : decode cX9_richest 118 = .ok (.getfield 43, 3) := by decide +kernel
theorem dX9_richest_121 : decode cX9_richest 121 = .ok (.iload_n 2, 1) := by decide +kernel
theorem dX9_richest_122 : decode cX9_richest 122 = .ok (.iaload, 1) := by decide +kernel
theorem dX9_richest_123 : decode cX9_richest 123 = .ok (.if_icmp .le 7, 3) := by decide +kernel
theorem dX9_richest_126 : decode cX9_richest 126 = .ok (.iload_n 3, 1) := by decide +kernel
theorem dX9_richest_127 : decode cX9_richest 127 = .ok (.goto 4, 3) := by decide +kernel
theorem dX9_richest_130 : decode cX9_richest 130 = .ok (.iload_n 2, 1) := by decide +kernel
theorem dX9_richest_131 : decode cX9_richest 131 = .ok (.istore_n 2, 1) := by decide +kernel
theorem dX9_richest_132 : decode cX9_richest 132 = .ok (.iinc 3 1, 3) := by decide +kernel
theorem dX9_richest_135 : decode cX9_richest 135 = .ok (.goto (-30), 3) := by decide +kernel
theorem dX9_richest_138 : decode cX9_richest 138 = .ok (.iload_n 1, 1) := by decide +kernel
theorem dX9_richest_139 : decode cX9_richest 139 = .ok (.ifCond .ne 7, 3) := by decide +kernel
theorem dX9_richest_142 : decode cX9_richest 142 = .ok (.iload_n 2, 1) := by decide +kernel
theorem dX9_richest_143 : decode cX9_richest 143 = .ok (.goto 9, 3) := by decide +kernel
theorem dX9_richest_146 : decode cX9_richest 146 = .ok (.aload_n 0, 1) := by decide +kernel
theorem dX9_richest_147 : decode cX9_richest 147 = .ok (.getfield 43, 3) := by decide +kernel
theorem dX9_richest_150 : decode cX9_richest 150 = .ok (.iload_n 2, 1) := by decide +kernel
theorem dX9_richest_151 : decode cX9_richest 151 = .ok (.iaload, 1) := by decide +kernel
theorem dX9_richest_152 : decode cX9_richest 152 = .ok (.ireturn, 1) := by decide +kernel
theorem dX9_house_0 : decode cX9_house 0 = .ok (.iload_n 1, 1) := by decide +kernel
theorem dX9_house_1 : decode cX9_house 1 = .ok (.i2l, 1) := by decide +kernel
theorem dX9_house_2 : decode cX9_house 2 = .ok (.lconst 1, 1) := by decide +kernel
theorem dX9_house_3 : decode cX9_house 3 = .ok (.ldc2_w 120, 3) := by decide +kernel
theorem dX9_house_6 : decode cX9_house 6 = .ok (.invokestatic 65, 3) := by decide +kernel
theorem dX9_house_9 : decode cX9_house 9 = .ok (.ifCond .ne 6, 3) := by decide +kernel
theorem dX9_house_12 : decode cX9_house 12 = .ok (.ldc 98, 2) := by decide +kernel
theorem dX9_house_14 : decode cX9_house 14 = .ok (.ireturn, 1) := by decide +kernel
theorem dX9_house_15 : decode cX9_house 15 = .ok (.aload_n 0, 1) := by decide +kernel
theorem dX9_house_16 : decode cX9_house 16 = .ok (.getfield 7, 3) := by decide +kernel
theorem dX9_house_19 : decode cX9_house 19 = .ok (.iconst 0, 1) := by decide +kernel
theorem dX9_house_20 : decode cX9_house 20 = .ok (.iaload, 1) := by decide +kernel
theorem dX9_house_21 : decode cX9_house 21 = .ok (.bipush 8, 2) := by decide +kernel
theorem dX9_house_23 : decode cX9_house 23 = .ok (.if_icmp .ne 6, 3) := by decide +kernel
theorem dX9_house_26 : decode cX9_house 26 = .ok (.ldc 164, 2) := by decide +kernel
theorem dX9_house_28 : decode cX9_house 28 = .ok (.ireturn, 1) := by decide +kernel
theorem dX9_house_29 : decode cX9_house 29 = .ok (.sipush 131, 3) := by decide +kernel
theorem dX9_house_32 : decode cX9_house 32 = .ok (.iconst 2, 1) := by decide +kernel
theorem dX9_house_33 : decode cX9_house 33 = .ok (.aload_n 0, 1) := by decide +kernel
theorem dX9_house_34 : decode cX9_house 34 = .ok (.getfield 7, 3) := by decide +kernel
theorem dX9_house_37 : decode cX9_house 37 = .ok (.iconst 0, 1) := by decide +kernel
theorem dX9_house_38 : decode cX9_house 38 = .ok (.iaload, 1) := by decide +kernel
theorem dX9_house_39 : decode cX9_house 39 = .ok (.imul, 1) := by decide +kernel
theorem dX9_house_40 : decode cX9_house 40 = .ok (.iadd, 1) := by decide +kernel
theorem dX9_house_41 : decode cX9_house 41 = .ok (.istore_n 2, 1) := by decide +kernel
theorem dX9_house_42 : decode cX9_house 42 = .ok (.aload_n 0, 1) := by decide +kernel
theorem dX9_house_43 : decode cX9_house 43 = .ok (.getfield 7, 3) := by decide +kernel
theorem dX9_house_46 : decode cX9_house 46 = .ok (.iload_n 2, 1) := by decide +kernel
theorem dX9_house_47 : decode cX9_house 47 = .ok (.iload_n 1, 1) := by decide +kernel
theorem dX9_house_48 : decode cX9_house 48 = .ok (.iastore, 1) := by decide +kernel
theorem dX9_house_49 : decode cX9_house 49 = .ok (.aload_n 0, 1) := by decide +kernel
theorem dX9_house_50 : decode cX9_house 50 = .ok (.getfield 7, 3) := by decide +kernel
theorem dX9_house_53 : decode cX9_house 53 = .ok (.iload_n 2, 1) := by decide +kernel
theorem dX9_house_54 : decode cX9_house 54 = .ok (.iconst 1, 1) := by decide +kernel
theorem dX9_house_55 : decode cX9_house 55 = .ok (.iadd, 1) := by decide +kernel
theorem dX9_house_56 : decode cX9_house 56 = .ok (.iconst (-1), 1) := by decide +kernel
theorem dX9_house_57 : decode cX9_house 57 = .ok (.iastore, 1) := by decide +kernel
theorem dX9_house_58 : decode cX9_house 58 = .ok (.aload_n 0, 1) := by decide +kernel
theorem dX9_house_59 : decode cX9_house 59 = .ok (.getfield 7, 3) := by decide +kernel
theorem dX9_house_62 : decode cX9_house 62 = .ok (.iconst 0, 1) := by decide +kernel
theorem dX9_house_63 : decode cX9_house 63 = .ok (.dup2, 1) := by decide +kernel
theorem dX9_house_64 : decode cX9_house 64 = .ok (.iaload, 1) := by decide +kernel
theorem dX9_house_65 : decode cX9_house 65 = .ok (.iconst 1, 1) := by decide +kernel
theorem dX9_house_66 : decode cX9_house 66 = .ok (.iadd, 1) := by decide +kernel
theorem dX9_house_67 : decode cX9_house 67 = .ok (.iastore, 1) := by decide +kernel
theorem dX9_house_68 : decode cX9_house 68 = .ok (.aload_n 0, 1) := by decide +kernel
theorem dX9_house_69 : decode cX9_house 69 = .ok (.getfield 7, 3) := by decide +kernel
theorem dX9_house_72 : decode cX9_house 72 = .ok (.iconst 0, 1) := by decide +kernel
theorem dX9_house_73 : decode cX9_house 73 = .ok (.iaload, 1) := by decide +kernel
theorem dX9_house_74 : decode cX9_house 74 = .ok (.iconst 1, 1) := by decide +kernel
theorem dX9_house_75 : decode cX9_house 75 = .ok (.isub, 1) := by decide +kernel
theorem dX9_house_76 : decode cX9_house 76 = .ok (.ireturn, 1) := by decide +kernel
theorem dX9_many_0 : decode cX9_many 0 = .ok (.aload_n 0, 1) := by decide +kernel
theorem dX9_many_1 : decode cX9_many 1 = .ok (.getfield 7, 3) := by decide +kernel
theorem dX9_many_4 : decode cX9_many 4 = .ok (.sipush 131, 3) := by decide +kernel
theorem dX9_many_7 : decode cX9_many 7 = .ok (.iconst 2, 1) := by decide +kernel
theorem dX9_many_8 : decode cX9_many 8 = .ok (.iload_n 1, 1) := by decide +kernel
theorem dX9_many_9 : decode cX9_many 9 = .ok (.imul, 1) := by decide +kernel
theorem dX9_many_10 : decode cX9_many 10 = .ok (.iadd, 1) := by decide +kernel
theorem dX9_many_11 : decode cX9_many 11 = .ok (.iaload, 1) := by decide +kernel
theorem dX9_many_12 : decode cX9_many 12 = .ok (.ireturn, 1) := by decide +kernel
theorem dX9_where_0 : decode cX9_where 0 = .ok (.aload_n 0, 1) := by decide +kernel
theorem dX9_where_1 : decode cX9_where 1 = .ok (.getfield 7, 3) := by decide +kernel
theorem dX9_where_4 : decode cX9_where 4 = .ok (.sipush 131, 3) := by decide +kernel
theorem dX9_where_7 : decode cX9_where 7 = .ok (.iconst 2, 1) := by decide +kernel
theorem dX9_where_8 : decode cX9_where 8 = .ok (.iload_n 1, 1) := by decide +kernel
theorem dX9_where_9 : decode cX9_where 9 = .ok (.imul, 1) := by decide +kernel
theorem dX9_where_10 : decode cX9_where 10 = .ok (.iadd, 1) := by decide +kernel
theorem dX9_where_11 : decode cX9_where 11 = .ok (.iconst 1, 1) := by decide +kernel
theorem dX9_where_12 : decode cX9_where 12 = .ok (.iadd, 1) := by decide +kernel
theorem dX9_where_13 : decode cX9_where 13 = .ok (.iaload, 1) := by decide +kernel
theorem dX9_where_14 : decode cX9_where 14 = .ok (.ireturn, 1) := by decide +kernel
theorem dX9_houseTold_0 : decode cX9_houseTold 0 = .ok (.aload_n 0, 1) := by decide +kernel
theorem dX9_houseTold_1 : decode cX9_houseTold 1 = .ok (.iload_n 1, 1) := by decide +kernel
theorem dX9_houseTold_2 : decode cX9_houseTold 2 = .ok (.invokevirtual 165, 3) := by decide +kernel
theorem dX9_houseTold_5 : decode cX9_houseTold 5 = .ok (.ifCond .eq 13, 3) := by decide +kernel
theorem dX9_houseTold_8 : decode cX9_houseTold 8 = .ok (.iload_n 2, 1) := by decide +kernel
theorem dX9_houseTold_9 : decode cX9_houseTold 9 = .ok (.i2l, 1) := by decide +kernel
theorem dX9_houseTold_10 : decode cX9_houseTold 10 = .ok (.lconst 0, 1) := by decide +kernel
theorem dX9_houseTold_11 : decode cX9_houseTold 11 = .ok (.lconst 1, 1) := by decide +kernel
theorem dX9_houseTold_12 : decode cX9_houseTold 12 = .ok (.invokestatic 65, 3) := by decide +kernel
theorem dX9_houseTold_15 : decode cX9_houseTold 15 = .ok (.ifCond .ne 6, 3) := by decide +kernel
theorem dX9_houseTold_18 : decode cX9_houseTold 18 = .ok (.ldc 98, 2) := by decide +kernel
theorem dX9_houseTold_20 : decode cX9_houseTold 20 = .ok (.ireturn, 1) := by decide +kernel
theorem dX9_houseTold_21 : decode cX9_houseTold 21 = .ok (.iload_n 2, 1) := by decide +kernel
theorem dX9_houseTold_22 : decode cX9_houseTold 22 = .ok (.ifCond .ne 11, 3) := by decide +kernel
theorem dX9_houseTold_25 : decode cX9_houseTold 25 = .ok (.aload_n 0, 1) := by decide +kernel
theorem dX9_houseTold_26 : decode cX9_houseTold 26 = .ok (.iload_n 1, 1) := by decide +kernel
theorem dX9_houseTold_27 : decode cX9_houseTold 27 = .ok (.invokevirtual 168, 3) := by decide +kernel
theorem dX9_houseTold_30 : decode cX9_houseTold 30 = .ok (.goto 11, 3) := by decide +kernel
theorem dX9_houseTold_33 : decode cX9_houseTold 33 = .ok (.aload_n 0, 1) := by decide +kernel
theorem dX9_houseTold_34 : decode cX9_houseTold 34 = .ok (.iload_n 1, 1) := by decide +kernel
theorem dX9_houseTold_35 : decode cX9_houseTold 35 = .ok (.invokevirtual 171, 3) := by decide +kernel
theorem dX9_houseTold_38 : decode cX9_houseTold 38 = .ok (.invokestatic 112, 3) := by decide +kernel
theorem dX9_houseTold_41 : decode cX9_houseTold 41 = .ok (.ireturn, 1) := by decide +kernel
theorem dX9_settle_0 : decode cX9_settle 0 = .ok (.aload_n 0, 1) := by decide +kernel
theorem dX9_settle_1 : decode cX9_settle 1 = .ok (.iload_n 1, 1) := by decide +kernel
theorem dX9_settle_2 : decode cX9_settle 2 = .ok (.invokevirtual 165, 3) := by decide +kernel
theorem dX9_settle_5 : decode cX9_settle 5 = .ok (.ifCond .eq 16, 3) := by decide +kernel
theorem dX9_settle_8 : decode cX9_settle 8 = .ok (.iload_n 2, 1) := by decide +kernel
theorem dX9_settle_9 : decode cX9_settle 9 = .ok (.ldc 64, 2) := by decide +kernel
theorem dX9_settle_11 : decode cX9_settle 11 = .ok (.if_icmp .eq 13, 3) := by decide +kernel
theorem dX9_settle_14 : decode cX9_settle 14 = .ok (.iload_n 2, 1) := by decide +kernel
theorem dX9_settle_15 : decode cX9_settle 15 = .ok (.invokestatic 90, 3) := by decide +kernel
theorem dX9_settle_18 : decode cX9_settle 18 = .ok (.ifCond .ne 6, 3) := by decide +kernel
theorem dX9_settle_21 : decode cX9_settle 21 = .ok (.ldc 98, 2) := by decide +kernel
theorem dX9_settle_23 : decode cX9_settle 23 = .ok (.ireturn, 1) := by decide +kernel
theorem dX9_settle_24 : decode cX9_settle 24 = .ok (.aload_n 0, 1) := by decide +kernel
theorem dX9_settle_25 : decode cX9_settle 25 = .ok (.sipush 131, 3) := by decide +kernel
theorem dX9_settle_28 : decode cX9_settle 28 = .ok (.iconst 2, 1) := by decide +kernel
theorem dX9_settle_29 : decode cX9_settle 29 = .ok (.iload_n 1, 1) := by decide +kernel
theorem dX9_settle_30 : decode cX9_settle 30 = .ok (.imul, 1) := by decide +kernel
theorem dX9_settle_31 : decode cX9_settle 31 = .ok (.iadd, 1) := by decide +kernel
theorem dX9_settle_32 : decode cX9_settle 32 = .ok (.iconst 1, 1) := by decide +kernel
theorem dX9_settle_33 : decode cX9_settle 33 = .ok (.iadd, 1) := by decide +kernel
theorem dX9_settle_34 : decode cX9_settle 34 = .ok (.iload_n 2, 1) := by decide +kernel
theorem dX9_settle_35 : decode cX9_settle 35 = .ok (.ldc 64, 2) := by decide +kernel
theorem dX9_settle_37 : decode cX9_settle 37 = .ok (.if_icmp .ne 7, 3) := by decide +kernel
theorem dX9_settle_40 : decode cX9_settle 40 = .ok (.iconst (-1), 1) := by decide +kernel
theorem dX9_settle_41 : decode cX9_settle 41 = .ok (.goto 4, 3) := by decide +kernel
theorem dX9_settle_44 : decode cX9_settle 44 = .ok (.iload_n 2, 1) := by decide +kernel
theorem dX9_settle_45 : decode cX9_settle 45 = .ok (.invokevirtual 103, 3) := by decide +kernel
theorem dX9_settle_48 : decode cX9_settle 48 = .ok (.invokestatic 112, 3) := by decide +kernel
theorem dX9_settle_51 : decode cX9_settle 51 = .ok (.ireturn, 1) := by decide +kernel
theorem dX9_peak_0 : decode cX9_peak 0 = .ok (.iconst 0, 1) := by decide +kernel
theorem dX9_peak_1 : decode cX9_peak 1 = .ok (.istore_n 1, 1) := by decide +kernel
theorem dX9_peak_2 : decode cX9_peak 2 = .ok (.iconst 1, 1) := by decide +kernel
theorem dX9_peak_3 : decode cX9_peak 3 = .ok (.istore_n 2, 1) := by decide +kernel
theorem dX9_peak_4 : decode cX9_peak 4 = .ok (.iload_n 2, 1) := by decide +kernel
theorem dX9_peak_5 : decode cX9_peak 5 = .ok (.bipush 30, 2) := by decide +kernel
theorem dX9_peak_7 : decode cX9_peak 7 = .ok (.if_icmp .ge 28, 3) := by decide +kernel
theorem dX9_peak_10 : decode cX9_peak 10 = .ok (.aload_n 0, 1) := by decide +kernel
theorem dX9_peak_11 : decode cX9_peak 11 = .ok (.iload_n 2, 1) := by decide +kernel
theorem dX9_peak_12 : decode cX9_peak 12 = .ok (.invokevirtual 78, 3) := by decide +kernel
theorem dX9_peak_15 : decode cX9_peak 15 = .ok (.aload_n 0, 1) := by decide +kernel
theorem dX9_peak_16 : decode cX9_peak 16 = .ok (.iload_n 1, 1) := by decide +kernel
theorem dX9_peak_17 : decode cX9_peak 17 = .ok (.invokevirtual 78, 3) := by decide +kernel
theorem dX9_peak_20 : decode cX9_peak 20 = .ok (.if_icmp .le 7, 3) := by decide +kernel
theorem dX9_peak_23 : decode cX9_peak 23 = .ok (.iload_n 2, 1) := by decide +kernel
theorem dX9_peak_24 : decode cX9_peak 24 = .ok (.goto 4, 3) := by decide +kernel
theorem dX9_peak_27 : decode cX9_peak 27 = .ok (.iload_n 1, 1) := by decide +kernel
theorem dX9_peak_28 : decode cX9_peak 28 = .ok (.istore_n 1, 1) := by decide +kernel
theorem dX9_peak_29 : decode cX9_peak 29 = .ok (.iinc 2 1, 3) := by decide +kernel
theorem dX9_peak_32 : decode cX9_peak 32 = .ok (.goto (-28), 3) := by decide +kernel
theorem dX9_peak_35 : decode cX9_peak 35 = .ok (.iload_n 1, 1) := by decide +kernel
theorem dX9_peak_36 : decode cX9_peak 36 = .ok (.ireturn, 1) := by decide +kernel
theorem dX9_cut_0 : decode cX9_cut 0 = .ok (.iload_n 1, 1) := by decide +kernel
theorem dX9_cut_1 : decode cX9_cut 1 = .ok (.invokestatic 148, 3) := by decide +kernel
theorem dX9_cut_4 : decode cX9_cut 4 = .ok (.ifCond .ne 6, 3) := by decide +kernel
theorem dX9_cut_7 : decode cX9_cut 7 = .ok (.ldc 98, 2) := by decide +kernel
theorem dX9_cut_9 : decode cX9_cut 9 = .ok (.ireturn, 1) := by decide +kernel
theorem dX9_cut_10 : decode cX9_cut 10 = .ok (.aload_n 0, 1) := by decide +kernel
theorem dX9_cut_11 : decode cX9_cut 11 = .ok (.iload_n 1, 1) := by decide +kernel
theorem dX9_cut_12 : decode cX9_cut 12 = .ok (.invokevirtual 131, 3) := by decide +kernel
theorem dX9_cut_15 : decode cX9_cut 15 = .ok (.istore_n 2, 1) := by decide +kernel
theorem dX9_cut_16 : decode cX9_cut 16 = .ok (.aload_n 0, 1) := by decide +kernel
theorem dX9_cut_17 : decode cX9_cut 17 = .ok (.invokevirtual 174, 3) := by decide +kernel
theorem dX9_cut_20 : decode cX9_cut 20 = .ok (.istore_n 3, 1) := by decide +kernel
theorem dX9_cut_21 : decode cX9_cut 21 = .ok (.iload_n 2, 1) := by decide +kernel
theorem dX9_cut_22 : decode cX9_cut 22 = .ok (.iload_n 3, 1) := by decide +kernel
theorem dX9_cut_23 : decode cX9_cut 23 = .ok (.ishr, 1) := by decide +kernel
theorem dX9_cut_24 : decode cX9_cut 24 = .ok (.iconst 1, 1) := by decide +kernel
theorem dX9_cut_25 : decode cX9_cut 25 = .ok (.iand, 1) := by decide +kernel
theorem dX9_cut_26 : decode cX9_cut 26 = .ok (.iconst 1, 1) := by decide +kernel
theorem dX9_cut_27 : decode cX9_cut 27 = .ok (.if_icmp .ne 15, 3) := by decide +kernel
theorem dX9_cut_30 : decode cX9_cut 30 = .ok (.iload_n 2, 1) := by decide +kernel
theorem dX9_cut_31 : decode cX9_cut 31 = .ok (.iload_n 2, 1) := by decide +kernel
theorem dX9_cut_32 : decode cX9_cut 32 = .ok (.iload_n 3, 1) := by decide +kernel
theorem dX9_cut_33 : decode cX9_cut 33 = .ok (.invokestatic 143, 3) := by decide +kernel
theorem dX9_cut_36 : decode cX9_cut 36 = .ok (.iconst (-1), 1) := by decide +kernel
theorem dX9_cut_37 : decode cX9_cut 37 = .ok (.ixor, 1) := by decide +kernel
theorem dX9_cut_38 : decode cX9_cut 38 = .ok (.iand, 1) := by decide +kernel
theorem dX9_cut_39 : decode cX9_cut 39 = .ok (.goto 4, 3) := by decide +kernel
theorem dX9_cut_42 : decode cX9_cut 42 = .ok (.iload_n 2, 1) := by decide +kernel
theorem dX9_cut_43 : decode cX9_cut 43 = .ok (.istore 4, 2) := by decide +kernel
theorem dX9_cut_45 : decode cX9_cut 45 = .ok (.iconst 0, 1) := by decide +kernel
theorem dX9_cut_46 : decode cX9_cut 46 = .ok (.istore 5, 2) := by decide +kernel
theorem dX9_cut_48 : decode cX9_cut 48 = .ok (.iconst 0, 1) := by decide +kernel
theorem dX9_cut_49 : decode cX9_cut 49 = .ok (.istore 6, 2) := by decide +kernel
theorem dX9_cut_51 : decode cX9_cut 51 = .ok (.iload 6, 2) := by decide +kernel
theorem dX9_cut_53 : decode cX9_cut 53 = .ok (.aload_n 0, 1) := by decide +kernel
theorem dX9_cut_54 : decode cX9_cut 54 = .ok (.getfield 7, 3) := by decide +kernel
theorem dX9_cut_57 : decode cX9_cut 57 = .ok (.iconst 0, 1) := by decide +kernel
theorem dX9_cut_58 : decode cX9_cut 58 = .ok (.iaload, 1) := by decide +kernel
theorem dX9_cut_59 : decode cX9_cut 59 = .ok (.if_icmp .ge 46, 3) := by decide +kernel
theorem dX9_cut_62 : decode cX9_cut 62 = .ok (.iload 5, 2) := by decide +kernel
theorem dX9_cut_64 : decode cX9_cut 64 = .ok (.aload_n 0, 1) := by decide +kernel
theorem dX9_cut_65 : decode cX9_cut 65 = .ok (.iload 6, 2) := by decide +kernel
theorem dX9_cut_67 : decode cX9_cut 67 = .ok (.invokevirtual 171, 3) := by decide +kernel
theorem dX9_cut_70 : decode cX9_cut 70 = .ok (.ifCond .lt 25, 3) := by decide +kernel
theorem dX9_cut_73 : decode cX9_cut 73 = .ok (.iload 4, 2) := by decide +kernel
theorem dX9_cut_75 : decode cX9_cut 75 = .ok (.aload_n 0, 1) := by decide +kernel
theorem dX9_cut_76 : decode cX9_cut 76 = .ok (.iload 6, 2) := by decide +kernel
theorem dX9_cut_78 : decode cX9_cut 78 = .ok (.invokevirtual 171, 3) := by decide +kernel
theorem dX9_cut_81 : decode cX9_cut 81 = .ok (.ishr, 1) := by decide +kernel
theorem dX9_cut_82 : decode cX9_cut 82 = .ok (.iconst 1, 1) := by decide +kernel
theorem dX9_cut_83 : decode cX9_cut 83 = .ok (.iand, 1) := by decide +kernel
theorem dX9_cut_84 : decode cX9_cut 84 = .ok (.iconst 1, 1) := by decide +kernel
theorem dX9_cut_85 : decode cX9_cut 85 = .ok (.if_icmp .ne 10, 3) := by decide +kernel
theorem dX9_cut_88 : decode cX9_cut 88 = .ok (.iconst 1, 1) := by decide +kernel
theorem dX9_cut_89 : decode cX9_cut 89 = .ok (.iload 6, 2) := by decide +kernel
theorem dX9_cut_91 : decode cX9_cut 91 = .ok (.ishl, 1) := by decide +kernel
theorem dX9_cut_92 : decode cX9_cut 92 = .ok (.goto 4, 3) := by decide +kernel
theorem dX9_cut_95 : decode cX9_cut 95 = .ok (.iconst 0, 1) := by decide +kernel
theorem dX9_cut_96 : decode cX9_cut 96 = .ok (.ior, 1) := by decide +kernel
theorem dX9_cut_97 : decode cX9_cut 97 = .ok (.istore 5, 2) := by decide +kernel
theorem dX9_cut_99 : decode cX9_cut 99 = .ok (.iinc 6 1, 3) := by decide +kernel
theorem dX9_cut_102 : decode cX9_cut 102 = .ok (.goto (-51), 3) := by decide +kernel
theorem dX9_cut_105 : decode cX9_cut 105 = .ok (.iload 5, 2) := by decide +kernel
theorem dX9_cut_107 : decode cX9_cut 107 = .ok (.ireturn, 1) := by decide +kernel
theorem dX9_lack_0 : decode cX9_lack 0 = .ok (.iload_n 1, 1) := by decide +kernel
theorem dX9_lack_1 : decode cX9_lack 1 = .ok (.invokestatic 148, 3) := by decide +kernel
theorem dX9_lack_4 : decode cX9_lack 4 = .ok (.ifCond .ne 6, 3) := by decide +kernel
theorem dX9_lack_7 : decode cX9_lack 7 = .ok (.ldc 98, 2) := by decide +kernel
theorem dX9_lack_9 : decode cX9_lack 9 = .ok (.ireturn, 1) := by decide +kernel
theorem dX9_lack_10 : decode cX9_lack 10 = .ok (.iconst 0, 1) := by decide +kernel
theorem dX9_lack_11 : decode cX9_lack 11 = .ok (.istore_n 2, 1) := by decide +kernel
theorem dX9_lack_12 : decode cX9_lack 12 = .ok (.iconst 0, 1) := by decide +kernel
theorem dX9_lack_13 : decode cX9_lack 13 = .ok (.istore_n 3, 1) := by decide +kernel
theorem dX9_lack_14 : decode cX9_lack 14 = .ok (.iload_n 3, 1) := by decide +kernel
theorem dX9_lack_15 : decode cX9_lack 15 = .ok (.aload_n 0, 1) := by decide +kernel
theorem dX9_lack_16 : decode cX9_lack 16 = .ok (.getfield 7, 3) := by decide +kernel
theorem dX9_lack_19 : decode cX9_lack 19 = .ok (.iconst 0, 1) := by decide +kernel
theorem dX9_lack_20 : decode cX9_lack 20 = .ok (.iaload, 1) := by decide +kernel
theorem dX9_lack_21 : decode cX9_lack 21 = .ok (.if_icmp .ge 17, 3) := by decide +kernel
theorem dX9_lack_24 : decode cX9_lack 24 = .ok (.iload_n 2, 1) := by decide +kernel
theorem dX9_lack_25 : decode cX9_lack 25 = .ok (.aload_n 0, 1) := by decide +kernel
theorem dX9_lack_26 : decode cX9_lack 26 = .ok (.iload_n 3, 1) := by decide +kernel
theorem dX9_lack_27 : decode cX9_lack 27 = .ok (.invokevirtual 168, 3) := by decide +kernel
theorem dX9_lack_30 : decode cX9_lack 30 = .ok (.iadd, 1) := by decide +kernel
theorem dX9_lack_31 : decode cX9_lack 31 = .ok (.istore_n 2, 1) := by decide +kernel
theorem dX9_lack_32 : decode cX9_lack 32 = .ok (.iinc 3 1, 3) := by decide +kernel
theorem dX9_lack_35 : decode cX9_lack 35 = .ok (.goto (-21), 3) := by decide +kernel
theorem dX9_lack_38 : decode cX9_lack 38 = .ok (.aload_n 0, 1) := by decide +kernel
theorem dX9_lack_39 : decode cX9_lack 39 = .ok (.iload_n 1, 1) := by decide +kernel
theorem dX9_lack_40 : decode cX9_lack 40 = .ok (.invokevirtual 131, 3) := by decide +kernel
theorem dX9_lack_43 : decode cX9_lack 43 = .ok (.istore_n 3, 1) := by decide +kernel
theorem dX9_lack_44 : decode cX9_lack 44 = .ok (.iconst 0, 1) := by decide +kernel
theorem dX9_lack_45 : decode cX9_lack 45 = .ok (.istore 4, 2) := by decide +kernel
theorem dX9_lack_47 : decode cX9_lack 47 = .ok (.iload 4, 2) := by decide +kernel
theorem dX9_lack_49 : decode cX9_lack 49 = .ok (.bipush 30, 2) := by decide +kernel
theorem dX9_lack_51 : decode cX9_lack 51 = .ok (.if_icmp .ge 32, 3) := by decide +kernel
theorem dX9_lack_54 : decode cX9_lack 54 = .ok (.iload_n 2, 1) := by decide +kernel
theorem dX9_lack_55 : decode cX9_lack 55 = .ok (.iload_n 3, 1) := by decide +kernel
theorem dX9_lack_56 : decode cX9_lack 56 = .ok (.iload 4, 2) := by decide +kernel
theorem dX9_lack_58 : decode cX9_lack 58 = .ok (.ishr, 1) := by decide +kernel
theorem dX9_lack_59 : decode cX9_lack 59 = .ok (.iconst 1, 1) := by decide +kernel
theorem dX9_lack_60 : decode cX9_lack 60 = .ok (.iand, 1) := by decide +kernel
theorem dX9_lack_61 : decode cX9_lack 61 = .ok (.iconst 1, 1) := by decide +kernel
theorem dX9_lack_62 : decode cX9_lack 62 = .ok (.if_icmp .ne 12, 3) := by decide +kernel
theorem dX9_lack_65 : decode cX9_lack 65 = .ok (.aload_n 0, 1) := by decide +kernel
theorem dX9_lack_66 : decode cX9_lack 66 = .ok (.iload 4, 2) := by decide +kernel
theorem dX9_lack_68 : decode cX9_lack 68 = .ok (.invokevirtual 106, 3) := by decide +kernel
theorem dX9_lack_71 : decode cX9_lack 71 = .ok (.goto 4, 3) := by decide +kernel
theorem dX9_lack_74 : decode cX9_lack 74 = .ok (.iconst 0, 1) := by decide +kernel
theorem dX9_lack_75 : decode cX9_lack 75 = .ok (.isub, 1) := by decide +kernel
theorem dX9_lack_76 : decode cX9_lack 76 = .ok (.istore_n 2, 1) := by decide +kernel
theorem dX9_lack_77 : decode cX9_lack 77 = .ok (.iinc 4 1, 3) := by decide +kernel
theorem dX9_lack_80 : decode cX9_lack 80 = .ok (.goto (-33), 3) := by decide +kernel
theorem dX9_lack_83 : decode cX9_lack 83 = .ok (.iload_n 2, 1) := by decide +kernel
theorem dX9_lack_84 : decode cX9_lack 84 = .ok (.ifCond .ge 7, 3) := by decide +kernel
theorem dX9_lack_87 : decode cX9_lack 87 = .ok (.iconst 0, 1) := by decide +kernel
theorem dX9_lack_88 : decode cX9_lack 88 = .ok (.goto 4, 3) := by decide +kernel
theorem dX9_lack_91 : decode cX9_lack 91 = .ok (.iload_n 2, 1) := by decide +kernel
theorem dX9_lack_92 : decode cX9_lack 92 = .ok (.ireturn, 1) := by decide +kernel
theorem dX9_going_0 : decode cX9_going 0 = .ok (.aload_n 0, 1) := by decide +kernel
theorem dX9_going_1 : decode cX9_going 1 = .ok (.iload_n 1, 1) := by decide +kernel
theorem dX9_going_2 : decode cX9_going 2 = .ok (.invokevirtual 165, 3) := by decide +kernel
theorem dX9_going_5 : decode cX9_going 5 = .ok (.ifCond .eq 10, 3) := by decide +kernel
theorem dX9_going_8 : decode cX9_going 8 = .ok (.iload_n 2, 1) := by decide +kernel
theorem dX9_going_9 : decode cX9_going 9 = .ok (.invokestatic 90, 3) := by decide +kernel
theorem dX9_going_12 : decode cX9_going 12 = .ok (.ifCond .ne 6, 3) := by decide +kernel
theorem dX9_going_15 : decode cX9_going 15 = .ok (.ldc 98, 2) := by decide +kernel
theorem dX9_going_17 : decode cX9_going 17 = .ok (.ireturn, 1) := by decide +kernel
theorem dX9_going_18 : decode cX9_going 18 = .ok (.aload_n 0, 1) := by decide +kernel
theorem dX9_going_19 : decode cX9_going 19 = .ok (.iload_n 1, 1) := by decide +kernel
theorem dX9_going_20 : decode cX9_going 20 = .ok (.invokevirtual 171, 3) := by decide +kernel
theorem dX9_going_23 : decode cX9_going 23 = .ok (.ifCond .ge 6, 3) := by decide +kernel
theorem dX9_going_26 : decode cX9_going 26 = .ok (.ldc 177, 2) := by decide +kernel
theorem dX9_going_28 : decode cX9_going 28 = .ok (.ireturn, 1) := by decide +kernel
theorem dX9_going_29 : decode cX9_going 29 = .ok (.iconst 1, 1) := by decide +kernel
theorem dX9_going_30 : decode cX9_going 30 = .ok (.aload_n 0, 1) := by decide +kernel
theorem dX9_going_31 : decode cX9_going 31 = .ok (.iload_n 1, 1) := by decide +kernel
theorem dX9_going_32 : decode cX9_going 32 = .ok (.invokevirtual 171, 3) := by decide +kernel
theorem dX9_going_35 : decode cX9_going 35 = .ok (.ishl, 1) := by decide +kernel
theorem dX9_going_36 : decode cX9_going 36 = .ok (.aload_n 0, 1) := by decide +kernel
theorem dX9_going_37 : decode cX9_going 37 = .ok (.iconst 0, 1) := by decide +kernel
theorem dX9_going_38 : decode cX9_going 38 = .ok (.invokevirtual 131, 3) := by decide +kernel
theorem dX9_going_41 : decode cX9_going 41 = .ok (.iand, 1) := by decide +kernel
theorem dX9_going_42 : decode cX9_going 42 = .ok (.istore_n 3, 1) := by decide +kernel
theorem dX9_going_43 : decode cX9_going 43 = .ok (.iconst 0, 1) := by decide +kernel
theorem dX9_going_44 : decode cX9_going 44 = .ok (.istore 4, 2) := by decide +kernel
theorem dX9_going_46 : decode cX9_going 46 = .ok (.iload 4, 2) := by decide +kernel
theorem dX9_going_48 : decode cX9_going 48 = .ok (.bipush 48, 2) := by decide +kernel
theorem dX9_going_50 : decode cX9_going 50 = .ok (.if_icmp .gt 35, 3) := by decide +kernel
theorem dX9_going_53 : decode cX9_going 53 = .ok (.iload_n 3, 1) := by decide +kernel
theorem dX9_going_54 : decode cX9_going 54 = .ok (.iload_n 2, 1) := by decide +kernel
theorem dX9_going_55 : decode cX9_going 55 = .ok (.ishr, 1) := by decide +kernel
theorem dX9_going_56 : decode cX9_going 56 = .ok (.iconst 1, 1) := by decide +kernel
theorem dX9_going_57 : decode cX9_going 57 = .ok (.iand, 1) := by decide +kernel
theorem dX9_going_58 : decode cX9_going 58 = .ok (.iconst 1, 1) := by decide +kernel
theorem dX9_going_59 : decode cX9_going 59 = .ok (.if_icmp .ne 6, 3) := by decide +kernel
theorem dX9_going_62 : decode cX9_going 62 = .ok (.iload 4, 2) := by decide +kernel
theorem dX9_going_64 : decode cX9_going 64 = .ok (.ireturn, 1) := by decide +kernel
theorem dX9_going_65 : decode cX9_going 65 = .ok (.iload_n 3, 1) := by decide +kernel
theorem dX9_going_66 : decode cX9_going 66 = .ok (.invokestatic 140, 3) := by decide +kernel
theorem dX9_going_69 : decode cX9_going 69 = .ok (.aload_n 0, 1) := by decide +kernel
theorem dX9_going_70 : decode cX9_going 70 = .ok (.iload 4, 2) := by decide +kernel
theorem dX9_going_72 : decode cX9_going 72 = .ok (.iconst 1, 1) := by decide +kernel
theorem dX9_going_73 : decode cX9_going 73 = .ok (.iadd, 1) := by decide +kernel
theorem dX9_going_74 : decode cX9_going 74 = .ok (.invokevirtual 131, 3) := by decide +kernel
theorem dX9_going_77 : decode cX9_going 77 = .ok (.iand, 1) := by decide +kernel
theorem dX9_going_78 : decode cX9_going 78 = .ok (.istore_n 3, 1) := by decide +kernel
theorem dX9_going_79 : decode cX9_going 79 = .ok (.iinc 4 1, 3) := by decide +kernel
theorem dX9_going_82 : decode cX9_going 82 = .ok (.goto (-36), 3) := by decide +kernel
theorem dX9_going_85 : decode cX9_going 85 = .ok (.ldc 64, 2) := by decide +kernel
theorem dX9_going_87 : decode cX9_going 87 = .ok (.ireturn, 1) := by decide +kernel
theorem dX9_grows_0 : decode cX9_grows 0 = .ok (.aload_n 0, 1) := by decide +kernel
theorem dX9_grows_1 : decode cX9_grows 1 = .ok (.iconst 1, 1) := by decide +kernel
theorem dX9_grows_2 : decode cX9_grows 2 = .ok (.invokevirtual 74, 3) := by decide +kernel
theorem dX9_grows_5 : decode cX9_grows 5 = .ok (.istore_n 2, 1) := by decide +kernel
theorem dX9_grows_6 : decode cX9_grows 6 = .ok (.iload_n 2, 1) := by decide +kernel
theorem dX9_grows_7 : decode cX9_grows 7 = .ok (.ifCond .ge 5, 3) := by decide +kernel
theorem dX9_grows_10 : decode cX9_grows 10 = .ok (.iconst 1, 1) := by decide +kernel
theorem dX9_grows_11 : decode cX9_grows 11 = .ok (.ireturn, 1) := by decide +kernel
theorem dX9_grows_12 : decode cX9_grows 12 = .ok (.aload_n 0, 1) := by decide +kernel
theorem dX9_grows_13 : decode cX9_grows 13 = .ok (.getfield 49, 3) := by decide +kernel
theorem dX9_grows_16 : decode cX9_grows 16 = .ok (.bipush 99, 2) := by decide +kernel
theorem dX9_grows_18 : decode cX9_grows 18 = .ok (.aload_n 0, 1) := by decide +kernel
theorem dX9_grows_19 : decode cX9_grows 19 = .ok (.iload_n 1, 1) := by decide +kernel
theorem dX9_grows_20 : decode cX9_grows 20 = .ok (.iconst 2, 1) := by decide +kernel
theorem dX9_grows_21 : decode cX9_grows 21 = .ok (.invokevirtual 70, 3) := by decide +kernel
theorem dX9_grows_24 : decode cX9_grows 24 = .ok (.iastore, 1) := by decide +kernel
theorem dX9_grows_25 : decode cX9_grows 25 = .ok (.aload_n 0, 1) := by decide +kernel
theorem dX9_grows_26 : decode cX9_grows 26 = .ok (.getfield 49, 3) := by decide +kernel
theorem dX9_grows_29 : decode cX9_grows 29 = .ok (.bipush 104, 2) := by decide +kernel
theorem dX9_grows_31 : decode cX9_grows 31 = .ok (.aload_n 0, 1) := by decide +kernel
theorem dX9_grows_32 : decode cX9_grows 32 = .ok (.iload_n 1, 1) := by decide +kernel
theorem dX9_grows_33 : decode cX9_grows 33 = .ok (.iconst 1, 1) := by decide +kernel
theorem dX9_grows_34 : decode cX9_grows 34 = .ok (.invokevirtual 70, 3) := by decide +kernel
theorem dX9_grows_37 : decode cX9_grows 37 = .ok (.iastore, 1) := by decide +kernel
theorem dX9_grows_38 : decode cX9_grows 38 = .ok (.aload_n 0, 1) := by decide +kernel
theorem dX9_grows_39 : decode cX9_grows 39 = .ok (.iload_n 2, 1) := by decide +kernel
theorem dX9_grows_40 : decode cX9_grows 40 = .ok (.invokevirtual 81, 3) := by decide +kernel
theorem dX9_grows_43 : decode cX9_grows 43 = .ok (.bipush 9, 2) := by decide +kernel
theorem dX9_grows_45 : decode cX9_grows 45 = .ok (.invokestatic 84, 3) := by decide +kernel
theorem dX9_grows_48 : decode cX9_grows 48 = .ok (.ireturn, 1) := by decide +kernel
theorem dX9_goesOn_0 : decode cX9_goesOn 0 = .ok (.aload_n 0, 1) := by decide +kernel
theorem dX9_goesOn_1 : decode cX9_goesOn 1 = .ok (.iconst 0, 1) := by decide +kernel
theorem dX9_goesOn_2 : decode cX9_goesOn 2 = .ok (.invokevirtual 131, 3) := by decide +kernel
theorem dX9_goesOn_5 : decode cX9_goesOn 5 = .ok (.istore_n 1, 1) := by decide +kernel
theorem dX9_goesOn_6 : decode cX9_goesOn 6 = .ok (.iconst 0, 1) := by decide +kernel
theorem dX9_goesOn_7 : decode cX9_goesOn 7 = .ok (.istore_n 2, 1) := by decide +kernel
theorem dX9_goesOn_8 : decode cX9_goesOn 8 = .ok (.iload_n 2, 1) := by decide +kernel
theorem dX9_goesOn_9 : decode cX9_goesOn 9 = .ok (.bipush 30, 2) := by decide +kernel
theorem dX9_goesOn_11 : decode cX9_goesOn 11 = .ok (.if_icmp .ge 65, 3) := by decide +kernel
theorem dX9_goesOn_14 : decode cX9_goesOn 14 = .ok (.aload_n 0, 1) := by decide +kernel
theorem dX9_goesOn_15 : decode cX9_goesOn 15 = .ok (.iload_n 2, 1) := by decide +kernel
theorem dX9_goesOn_16 : decode cX9_goesOn 16 = .ok (.iconst 0, 1) := by decide +kernel
theorem dX9_goesOn_17 : decode cX9_goesOn 17 = .ok (.invokevirtual 70, 3) := by decide +kernel
theorem dX9_goesOn_20 : decode cX9_goesOn 20 = .ok (.iconst 1, 1) := by decide +kernel
theorem dX9_goesOn_21 : decode cX9_goesOn 21 = .ok (.if_icmp .eq 13, 3) := by decide +kernel
theorem dX9_goesOn_24 : decode cX9_goesOn 24 = .ok (.aload_n 0, 1) := by decide +kernel
theorem dX9_goesOn_25 : decode cX9_goesOn 25 = .ok (.iload_n 2, 1) := by decide +kernel
theorem dX9_goesOn_26 : decode cX9_goesOn 26 = .ok (.iconst 0, 1) := by decide +kernel
theorem dX9_goesOn_27 : decode cX9_goesOn 27 = .ok (.invokevirtual 70, 3) := by decide +kernel
theorem dX9_goesOn_30 : decode cX9_goesOn 30 = .ok (.iconst 3, 1) := by decide +kernel
theorem dX9_goesOn_31 : decode cX9_goesOn 31 = .ok (.if_icmp .ne 39, 3) := by decide +kernel
theorem dX9_goesOn_34 : decode cX9_goesOn 34 = .ok (.aload_n 0, 1) := by decide +kernel
theorem dX9_goesOn_35 : decode cX9_goesOn 35 = .ok (.iload_n 2, 1) := by decide +kernel
theorem dX9_goesOn_36 : decode cX9_goesOn 36 = .ok (.iconst 2, 1) := by decide +kernel
theorem dX9_goesOn_37 : decode cX9_goesOn 37 = .ok (.iload_n 1, 1) := by decide +kernel
theorem dX9_goesOn_38 : decode cX9_goesOn 38 = .ok (.iload_n 2, 1) := by decide +kernel
theorem dX9_goesOn_39 : decode cX9_goesOn 39 = .ok (.ishr, 1) := by decide +kernel
theorem dX9_goesOn_40 : decode cX9_goesOn 40 = .ok (.iconst 1, 1) := by decide +kernel
theorem dX9_goesOn_41 : decode cX9_goesOn 41 = .ok (.iand, 1) := by decide +kernel
theorem dX9_goesOn_42 : decode cX9_goesOn 42 = .ok (.iconst 1, 1) := by decide +kernel
theorem dX9_goesOn_43 : decode cX9_goesOn 43 = .ok (.if_icmp .ne 23, 3) := by decide +kernel
theorem dX9_goesOn_46 : decode cX9_goesOn 46 = .ok (.aload_n 0, 1) := by decide +kernel
theorem dX9_goesOn_47 : decode cX9_goesOn 47 = .ok (.iload_n 2, 1) := by decide +kernel
theorem dX9_goesOn_48 : decode cX9_goesOn 48 = .ok (.iconst 2, 1) := by decide +kernel
theorem dX9_goesOn_49 : decode cX9_goesOn 49 = .ok (.invokevirtual 70, 3) := by decide +kernel
theorem dX9_goesOn_52 : decode cX9_goesOn 52 = .ok (.aload_n 0, 1) := by decide +kernel
theorem dX9_goesOn_53 : decode cX9_goesOn 53 = .ok (.iload_n 2, 1) := by decide +kernel
theorem dX9_goesOn_54 : decode cX9_goesOn 54 = .ok (.invokevirtual 178, 3) := by decide +kernel
theorem dX9_goesOn_57 : decode cX9_goesOn 57 = .ok (.iadd, 1) := by decide +kernel
theorem dX9_goesOn_58 : decode cX9_goesOn 58 = .ok (.bipush 99, 2) := by decide +kernel
theorem dX9_goesOn_60 : decode cX9_goesOn 60 = .ok (.invokestatic 84, 3) := by decide +kernel
theorem dX9_goesOn_63 : decode cX9_goesOn 63 = .ok (.goto 4, 3) := by decide +kernel
theorem dX9_goesOn_66 : decode cX9_goesOn 66 = .ok (.iconst 0, 1) := by decide +kernel
theorem dX9_goesOn_67 : decode cX9_goesOn 67 = .ok (.invokevirtual 99, 3) := by decide +kernel
theorem dX9_goesOn_70 : decode cX9_goesOn 70 = .ok (.iinc 2 1, 3) := by decide +kernel
theorem dX9_goesOn_73 : decode cX9_goesOn 73 = .ok (.goto (-65), 3) := by decide +kernel
theorem dX9_goesOn_76 : decode cX9_goesOn 76 = .ok (.iconst 0, 1) := by decide +kernel
theorem dX9_goesOn_77 : decode cX9_goesOn 77 = .ok (.istore_n 2, 1) := by decide +kernel
theorem dX9_goesOn_78 : decode cX9_goesOn 78 = .ok (.iload_n 2, 1) := by decide +kernel
theorem dX9_goesOn_79 : decode cX9_goesOn 79 = .ok (.aload_n 0, 1) := by decide +kernel
theorem dX9_goesOn_80 : decode cX9_goesOn 80 = .ok (.getfield 7, 3) := by decide +kernel
theorem dX9_goesOn_83 : decode cX9_goesOn 83 = .ok (.iconst 0, 1) := by decide +kernel
theorem dX9_goesOn_84 : decode cX9_goesOn 84 = .ok (.iaload, 1) := by decide +kernel
theorem dX9_goesOn_85 : decode cX9_goesOn 85 = .ok (.if_icmp .ge 120, 3) := by decide +kernel
theorem dX9_goesOn_88 : decode cX9_goesOn 88 = .ok (.aload_n 0, 1) := by decide +kernel
theorem dX9_goesOn_89 : decode cX9_goesOn 89 = .ok (.iload_n 2, 1) := by decide +kernel
theorem dX9_goesOn_90 : decode cX9_goesOn 90 = .ok (.invokevirtual 171, 3) := by decide +kernel
theorem dX9_goesOn_93 : decode cX9_goesOn 93 = .ok (.istore_n 3, 1) := by decide +kernel
theorem dX9_goesOn_94 : decode cX9_goesOn 94 = .ok (.iload_n 3, 1) := by decide +kernel
theorem dX9_goesOn_95 : decode cX9_goesOn 95 = .ok (.ifCond .lt 104, 3) := by decide +kernel
theorem dX9_goesOn_98 : decode cX9_goesOn 98 = .ok (.iload_n 1, 1) := by decide +kernel
theorem dX9_goesOn_99 : decode cX9_goesOn 99 = .ok (.iload_n 3, 1) := by decide +kernel
theorem dX9_goesOn_100 : decode cX9_goesOn 100 = .ok (.ishr, 1) := by decide +kernel
theorem dX9_goesOn_101 : decode cX9_goesOn 101 = .ok (.iconst 1, 1) := by decide +kernel
theorem dX9_goesOn_102 : decode cX9_goesOn 102 = .ok (.iand, 1) := by decide +kernel
theorem dX9_goesOn_103 : decode cX9_goesOn 103 = .ok (.ifCond .ne 96, 3) := by decide +kernel
theorem dX9_goesOn_106 : decode cX9_goesOn 106 = .ok (.iconst (-1), 1) := by decide +kernel
theorem dX9_goesOn_107 : decode cX9_goesOn 107 = .ok (.istore 4, 2) := by decide +kernel
theorem dX9_goesOn_109 : decode cX9_goesOn 109 = .ok (.iconst 0, 1) := by decide +kernel
theorem dX9_goesOn_110 : decode cX9_goesOn 110 = .ok (.istore 5, 2) := by decide +kernel
theorem dX9_goesOn_112 : decode cX9_goesOn 112 = .ok (.iload 5, 2) := by decide +kernel
theorem dX9_goesOn_114 : decode cX9_goesOn 114 = .ok (.iconst 4, 1) := by decide +kernel
theorem dX9_goesOn_115 : decode cX9_goesOn 115 = .ok (.if_icmp .ge 45, 3) := by decide +kernel
theorem dX9_goesOn_118 : decode cX9_goesOn 118 = .ok (.iload 4, 2) := by decide +kernel
theorem dX9_goesOn_120 : decode cX9_goesOn 120 = .ok (.ifCond .ge 40, 3) := by decide +kernel
theorem dX9_goesOn_123 : decode cX9_goesOn 123 = .ok (.iload_n 3, 1) := by decide +kernel
theorem dX9_goesOn_124 : decode cX9_goesOn 124 = .ok (.iload 5, 2) := by decide +kernel
theorem dX9_goesOn_126 : decode cX9_goesOn 126 = .ok (.invokestatic 137, 3) := by decide +kernel
theorem dX9_goesOn_129 : decode cX9_goesOn 129 = .ok (.istore 6, 2) := by decide +kernel
theorem dX9_goesOn_131 : decode cX9_goesOn 131 = .ok (.iload 6, 2) := by decide +kernel
theorem dX9_goesOn_133 : decode cX9_goesOn 133 = .ok (.ifCond .lt 18, 3) := by decide +kernel
theorem dX9_goesOn_136 : decode cX9_goesOn 136 = .ok (.iload_n 1, 1) := by decide +kernel
theorem dX9_goesOn_137 : decode cX9_goesOn 137 = .ok (.iload 6, 2) := by decide +kernel
theorem dX9_goesOn_139 : decode cX9_goesOn 139 = .ok (.ishr, 1) := by decide +kernel
theorem dX9_goesOn_140 : decode cX9_goesOn 140 = .ok (.iconst 1, 1) := by decide +kernel
theorem dX9_goesOn_141 : decode cX9_goesOn 141 = .ok (.iand, 1) := by decide +kernel
theorem dX9_goesOn_142 : decode cX9_goesOn 142 = .ok (.iconst 1, 1) := by decide +kernel
theorem dX9_goesOn_143 : decode cX9_goesOn 143 = .ok (.if_icmp .ne 8, 3) := by decide +kernel
theorem dX9_goesOn_146 : decode cX9_goesOn 146 = .ok (.iload 6, 2) := by decide +kernel
theorem dX9_goesOn_148 : decode cX9_goesOn 148 = .ok (.goto 4, 3) := by decide +kernel
theorem dX9_goesOn_151 : decode cX9_goesOn 151 = .ok (.iconst (-1), 1) := by decide +kernel
theorem dX9_goesOn_152 : decode cX9_goesOn 152 = .ok (.istore 4, 2) := by decide +kernel
theorem dX9_goesOn_154 : decode cX9_goesOn 154 = .ok (.iinc 5 1, 3) := by decide +kernel
theorem dX9_goesOn_157 : decode cX9_goesOn 157 = .ok (.goto (-45), 3) := by decide +kernel
theorem dX9_goesOn_160 : decode cX9_goesOn 160 = .ok (.aload_n 0, 1) := by decide +kernel
theorem dX9_goesOn_161 : decode cX9_goesOn 161 = .ok (.getfield 7, 3) := by decide +kernel
theorem dX9_goesOn_164 : decode cX9_goesOn 164 = .ok (.sipush 131, 3) := by decide +kernel
theorem dX9_goesOn_167 : decode cX9_goesOn 167 = .ok (.iconst 2, 1) := by decide +kernel
theorem dX9_goesOn_168 : decode cX9_goesOn 168 = .ok (.iload_n 2, 1) := by decide +kernel
theorem dX9_goesOn_169 : decode cX9_goesOn 169 = .ok (.imul, 1) := by decide +kernel
theorem dX9_goesOn_170 : decode cX9_goesOn 170 = .ok (.iadd, 1) := by decide +kernel
theorem dX9_goesOn_171 : decode cX9_goesOn 171 = .ok (.iconst 1, 1) := by decide +kernel
theorem dX9_goesOn_172 : decode cX9_goesOn 172 = .ok (.iadd, 1) := by decide +kernel
theorem dX9_goesOn_173 : decode cX9_goesOn 173 = .ok (.iload 4, 2) := by decide +kernel
theorem dX9_goesOn_175 : decode cX9_goesOn 175 = .ok (.iastore, 1) := by decide +kernel
theorem dX9_goesOn_176 : decode cX9_goesOn 176 = .ok (.aload_n 0, 1) := by decide +kernel
theorem dX9_goesOn_177 : decode cX9_goesOn 177 = .ok (.getfield 7, 3) := by decide +kernel
theorem dX9_goesOn_180 : decode cX9_goesOn 180 = .ok (.iconst 3, 1) := by decide +kernel
theorem dX9_goesOn_181 : decode cX9_goesOn 181 = .ok (.dup2, 1) := by decide +kernel
theorem dX9_goesOn_182 : decode cX9_goesOn 182 = .ok (.iaload, 1) := by decide +kernel
theorem dX9_goesOn_183 : decode cX9_goesOn 183 = .ok (.iload 4, 2) := by decide +kernel
theorem dX9_goesOn_185 : decode cX9_goesOn 185 = .ok (.ifCond .ge 11, 3) := by decide +kernel
theorem dX9_goesOn_188 : decode cX9_goesOn 188 = .ok (.aload_n 0, 1) := by decide +kernel
theorem dX9_goesOn_189 : decode cX9_goesOn 189 = .ok (.iload_n 2, 1) := by decide +kernel
theorem dX9_goesOn_190 : decode cX9_goesOn 190 = .ok (.invokevirtual 168, 3) := by decide +kernel
theorem dX9_goesOn_193 : decode cX9_goesOn 193 = .ok (.goto 4, 3) := by decide +kernel
theorem dX9_goesOn_196 : decode cX9_goesOn 196 = .ok (.iconst 0, 1) := by decide +kernel
theorem dX9_goesOn_197 : decode cX9_goesOn 197 = .ok (.iadd, 1) := by decide +kernel
theorem dX9_goesOn_198 : decode cX9_goesOn 198 = .ok (.iastore, 1) := by decide +kernel
theorem dX9_goesOn_199 : decode cX9_goesOn 199 = .ok (.iinc 2 1, 3) := by decide +kernel
theorem dX9_goesOn_202 : decode cX9_goesOn 202 = .ok (.goto (-124), 3) := by decide +kernel
theorem dX9_goesOn_205 : decode cX9_goesOn 205 = .ok (.aload_n 0, 1) := by decide +kernel
theorem dX9_goesOn_206 : decode cX9_goesOn 206 = .ok (.getfield 7, 3) := by decide +kernel
theorem dX9_goesOn_209 : decode cX9_goesOn 209 = .ok (.iconst 2, 1) := by decide +kernel
theorem dX9_goesOn_210 : decode cX9_goesOn 210 = .ok (.iaload, 1) := by decide +kernel
theorem dX9_goesOn_211 : decode cX9_goesOn 211 = .ok (.bipush 12, 2) := by decide +kernel
theorem dX9_goesOn_213 : decode cX9_goesOn 213 = .ok (.irem, 1) := by decide +kernel
theorem dX9_goesOn_214 : decode cX9_goesOn 214 = .ok (.ifCond .ne 63, 3) := by decide +kernel
theorem dX9_goesOn_217 : decode cX9_goesOn 217 = .ok (.aload_n 0, 1) := by decide +kernel
theorem dX9_goesOn_218 : decode cX9_goesOn 218 = .ok (.invokevirtual 127, 3) := by decide +kernel
theorem dX9_goesOn_221 : decode cX9_goesOn 221 = .ok (.bipush 100, 2) := by decide +kernel
theorem dX9_goesOn_223 : decode cX9_goesOn 223 = .ok (.irem, 1) := by decide +kernel
theorem dX9_goesOn_224 : decode cX9_goesOn 224 = .ok (.aload_n 0, 1) := by decide +kernel
theorem dX9_goesOn_225 : decode cX9_goesOn 225 = .ok (.getfield 7, 3) := by decide +kernel
theorem dX9_goesOn_228 : decode cX9_goesOn 228 = .ok (.bipush 9, 2) := by decide +kernel
theorem dX9_goesOn_230 : decode cX9_goesOn 230 = .ok (.iaload, 1) := by decide +kernel
theorem dX9_goesOn_231 : decode cX9_goesOn 231 = .ok (.if_icmp .ge 7, 3) := by decide +kernel
theorem dX9_goesOn_234 : decode cX9_goesOn 234 = .ok (.iconst 1, 1) := by decide +kernel
theorem dX9_goesOn_235 : decode cX9_goesOn 235 = .ok (.goto 4, 3) := by decide +kernel
theorem dX9_goesOn_238 : decode cX9_goesOn 238 = .ok (.iconst 0, 1) := by decide +kernel
theorem dX9_goesOn_239 : decode cX9_goesOn 239 = .ok (.istore_n 2, 1) := by decide +kernel
theorem dX9_goesOn_240 : decode cX9_goesOn 240 = .ok (.aload_n 0, 1) := by decide +kernel
theorem dX9_goesOn_241 : decode cX9_goesOn 241 = .ok (.getfield 7, 3) := by decide +kernel
theorem dX9_goesOn_244 : decode cX9_goesOn 244 = .ok (.bipush 8, 2) := by decide +kernel
theorem dX9_goesOn_246 : decode cX9_goesOn 246 = .ok (.iload_n 2, 1) := by decide +kernel
theorem dX9_goesOn_247 : decode cX9_goesOn 247 = .ok (.ifCond .eq 15, 3) := by decide +kernel
theorem dX9_goesOn_250 : decode cX9_goesOn 250 = .ok (.aload_n 0, 1) := by decide +kernel
theorem dX9_goesOn_251 : decode cX9_goesOn 251 = .ok (.getfield 7, 3) := by decide +kernel
theorem dX9_goesOn_254 : decode cX9_goesOn 254 = .ok (.bipush 8, 2) := by decide +kernel
theorem dX9_goesOn_256 : decode cX9_goesOn 256 = .ok (.iaload, 1) := by decide +kernel
theorem dX9_goesOn_257 : decode cX9_goesOn 257 = .ok (.iconst 1, 1) := by decide +kernel
theorem dX9_goesOn_258 : decode cX9_goesOn 258 = .ok (.iadd, 1) := by decide +kernel
theorem dX9_goesOn_259 : decode cX9_goesOn 259 = .ok (.goto 12, 3) := by decide +kernel
theorem dX9_goesOn_262 : decode cX9_goesOn 262 = .ok (.aload_n 0, 1) := by decide +kernel
theorem dX9_goesOn_263 : decode cX9_goesOn 263 = .ok (.getfield 7, 3) := by decide +kernel
theorem dX9_goesOn_266 : decode cX9_goesOn 266 = .ok (.bipush 8, 2) := by decide +kernel
theorem dX9_goesOn_268 : decode cX9_goesOn 268 = .ok (.iaload, 1) := by decide +kernel
theorem dX9_goesOn_269 : decode cX9_goesOn 269 = .ok (.iconst 1, 1) := by decide +kernel
theorem dX9_goesOn_270 : decode cX9_goesOn 270 = .ok (.isub, 1) := by decide +kernel
theorem dX9_goesOn_271 : decode cX9_goesOn 271 = .ok (.bipush 9, 2) := by decide +kernel
theorem dX9_goesOn_273 : decode cX9_goesOn 273 = .ok (.invokestatic 84, 3) := by decide +kernel
theorem dX9_goesOn_276 : decode cX9_goesOn 276 = .ok (.iastore, 1) := by decide +kernel
theorem dX9_goesOn_277 : decode cX9_goesOn 277 = .ok (.aload_n 0, 1) := by decide +kernel
theorem dX9_goesOn_278 : decode cX9_goesOn 278 = .ok (.getfield 7, 3) := by decide +kernel
theorem dX9_goesOn_281 : decode cX9_goesOn 281 = .ok (.iconst 2, 1) := by decide +kernel
theorem dX9_goesOn_282 : decode cX9_goesOn 282 = .ok (.dup2, 1) := by decide +kernel
theorem dX9_goesOn_283 : decode cX9_goesOn 283 = .ok (.iaload, 1) := by decide +kernel
theorem dX9_goesOn_284 : decode cX9_goesOn 284 = .ok (.iconst 1, 1) := by decide +kernel
theorem dX9_goesOn_285 : decode cX9_goesOn 285 = .ok (.iadd, 1) := by decide +kernel
theorem dX9_goesOn_286 : decode cX9_goesOn 286 = .ok (.iastore, 1) := by decide +kernel
theorem dX9_goesOn_287 : decode cX9_goesOn 287 = .ok (.return_, 1) := by decide +kernel
theorem dX9_run_0 : decode cX9_run 0 = .ok (.iload_n 1, 1) := by decide +kernel
theorem dX9_run_1 : decode cX9_run 1 = .ok (.i2l, 1) := by decide +kernel
theorem dX9_run_2 : decode cX9_run 2 = .ok (.lconst 1, 1) := by decide +kernel
theorem dX9_run_3 : decode cX9_run 3 = .ok (.ldc2_w 120, 3) := by decide +kernel
theorem dX9_run_6 : decode cX9_run 6 = .ok (.invokestatic 65, 3) := by decide +kernel
theorem dX9_run_9 : decode cX9_run 9 = .ok (.ifCond .ne 6, 3) := by decide +kernel
theorem dX9_run_12 : decode cX9_run 12 = .ok (.ldc 98, 2) := by decide +kernel
theorem dX9_run_14 : decode cX9_run 14 = .ok (.ireturn, 1) := by decide +kernel
theorem dX9_run_15 : decode cX9_run 15 = .ok (.iconst 0, 1) := by decide +kernel
theorem dX9_run_16 : decode cX9_run 16 = .ok (.istore_n 2, 1) := by decide +kernel
theorem dX9_run_17 : decode cX9_run 17 = .ok (.iload_n 2, 1) := by decide +kernel
theorem dX9_run_18 : decode cX9_run 18 = .ok (.iload_n 1, 1) := by decide +kernel
theorem dX9_run_19 : decode cX9_run 19 = .ok (.if_icmp .ge 25, 3) := by decide +kernel
theorem dX9_run_22 : decode cX9_run 22 = .ok (.aload_n 0, 1) := by decide +kernel
theorem dX9_run_23 : decode cX9_run 23 = .ok (.getfield 7, 3) := by decide +kernel
theorem dX9_run_26 : decode cX9_run 26 = .ok (.iconst 2, 1) := by decide +kernel
theorem dX9_run_27 : decode cX9_run 27 = .ok (.iaload, 1) := by decide +kernel
theorem dX9_run_28 : decode cX9_run 28 = .ok (.sipush 9999, 3) := by decide +kernel
theorem dX9_run_31 : decode cX9_run 31 = .ok (.if_icmp .ge 13, 3) := by decide +kernel
theorem dX9_run_34 : decode cX9_run 34 = .ok (.aload_n 0, 1) := by decide +kernel
theorem dX9_run_35 : decode cX9_run 35 = .ok (.invokevirtual 181, 3) := by decide +kernel
theorem dX9_run_38 : decode cX9_run 38 = .ok (.iinc 2 1, 3) := by decide +kernel
theorem dX9_run_41 : decode cX9_run 41 = .ok (.goto (-24), 3) := by decide +kernel
theorem dX9_run_44 : decode cX9_run 44 = .ok (.aload_n 0, 1) := by decide +kernel
theorem dX9_run_45 : decode cX9_run 45 = .ok (.getfield 7, 3) := by decide +kernel
theorem dX9_run_48 : decode cX9_run 48 = .ok (.iconst 3, 1) := by decide +kernel
theorem dX9_run_49 : decode cX9_run 49 = .ok (.iaload, 1) := by decide +kernel
theorem dX9_run_50 : decode cX9_run 50 = .ok (.ireturn, 1) := by decide +kernel
theorem dX9_allCorn_0 : decode cX9_allCorn 0 = .ok (.iconst 0, 1) := by decide +kernel
theorem dX9_allCorn_1 : decode cX9_allCorn 1 = .ok (.istore_n 1, 1) := by decide +kernel
theorem dX9_allCorn_2 : decode cX9_allCorn 2 = .ok (.iconst 0, 1) := by decide +kernel
theorem dX9_allCorn_3 : decode cX9_allCorn 3 = .ok (.istore_n 2, 1) := by decide +kernel
theorem dX9_allCorn_4 : decode cX9_allCorn 4 = .ok (.iload_n 2, 1) := by decide +kernel
theorem dX9_allCorn_5 : decode cX9_allCorn 5 = .ok (.bipush 30, 2) := by decide +kernel
theorem dX9_allCorn_7 : decode cX9_allCorn 7 = .ok (.if_icmp .ge 18, 3) := by decide +kernel
theorem dX9_allCorn_10 : decode cX9_allCorn 10 = .ok (.iload_n 1, 1) := by decide +kernel
theorem dX9_allCorn_11 : decode cX9_allCorn 11 = .ok (.aload_n 0, 1) := by decide +kernel
theorem dX9_allCorn_12 : decode cX9_allCorn 12 = .ok (.iload_n 2, 1) := by decide +kernel
theorem dX9_allCorn_13 : decode cX9_allCorn 13 = .ok (.iconst 2, 1) := by decide +kernel
theorem dX9_allCorn_14 : decode cX9_allCorn 14 = .ok (.invokevirtual 70, 3) := by decide +kernel
theorem dX9_allCorn_17 : decode cX9_allCorn 17 = .ok (.iadd, 1) := by decide +kernel
theorem dX9_allCorn_18 : decode cX9_allCorn 18 = .ok (.istore_n 1, 1) := by decide +kernel
theorem dX9_allCorn_19 : decode cX9_allCorn 19 = .ok (.iinc 2 1, 3) := by decide +kernel
theorem dX9_allCorn_22 : decode cX9_allCorn 22 = .ok (.goto (-18), 3) := by decide +kernel
theorem dX9_allCorn_25 : decode cX9_allCorn 25 = .ok (.iload_n 1, 1) := by decide +kernel
theorem dX9_allCorn_26 : decode cX9_allCorn 26 = .ok (.ireturn, 1) := by decide +kernel
theorem dX9_feed_0 : decode cX9_feed 0 = .ok (.aload_n 0, 1) := by decide +kernel
theorem dX9_feed_1 : decode cX9_feed 1 = .ok (.getfield 184, 3) := by decide +kernel
theorem dX9_feed_4 : decode cX9_feed 4 = .ok (.bipush 12, 2) := by decide +kernel
theorem dX9_feed_6 : decode cX9_feed 6 = .ok (.iadd, 1) := by decide +kernel
theorem dX9_feed_7 : decode cX9_feed 7 = .ok (.bipush 96, 2) := by decide +kernel
theorem dX9_feed_9 : decode cX9_feed 9 = .ok (.if_icmp .le 6, 3) := by decide +kernel
theorem dX9_feed_12 : decode cX9_feed 12 = .ok (.ldc 164, 2) := by decide +kernel
theorem dX9_feed_14 : decode cX9_feed 14 = .ok (.ireturn, 1) := by decide +kernel
theorem dX9_feed_15 : decode cX9_feed 15 = .ok (.iconst 0, 1) := by decide +kernel
theorem dX9_feed_16 : decode cX9_feed 16 = .ok (.istore 4, 2) := by decide +kernel
theorem dX9_feed_18 : decode cX9_feed 18 = .ok (.iload 4, 2) := by decide +kernel
theorem dX9_feed_20 : decode cX9_feed 20 = .ok (.bipush 12, 2) := by decide +kernel
theorem dX9_feed_22 : decode cX9_feed 22 = .ok (.if_icmp .ge 69, 3) := by decide +kernel
theorem dX9_feed_25 : decode cX9_feed 25 = .ok (.iload 4, 2) := by decide +kernel
theorem dX9_feed_27 : decode cX9_feed 27 = .ok (.iconst 4, 1) := by decide +kernel
theorem dX9_feed_28 : decode cX9_feed 28 = .ok (.if_icmp .ge 7, 3) := by decide +kernel
theorem dX9_feed_31 : decode cX9_feed 31 = .ok (.iload_n 1, 1) := by decide +kernel
theorem dX9_feed_32 : decode cX9_feed 32 = .ok (.goto 15, 3) := by decide +kernel
theorem dX9_feed_35 : decode cX9_feed 35 = .ok (.iload 4, 2) := by decide +kernel
theorem dX9_feed_37 : decode cX9_feed 37 = .ok (.bipush 8, 2) := by decide +kernel
theorem dX9_feed_39 : decode cX9_feed 39 = .ok (.if_icmp .ge 7, 3) := by decide +kernel
theorem dX9_feed_42 : decode cX9_feed 42 = .ok (.iload_n 2, 1) := by decide +kernel
theorem dX9_feed_43 : decode cX9_feed 43 = .ok (.goto 4, 3) := by decide +kernel
theorem dX9_feed_46 : decode cX9_feed 46 = .ok (.iload_n 3, 1) := by decide +kernel
theorem dX9_feed_47 : decode cX9_feed 47 = .ok (.istore 5, 2) := by decide +kernel
theorem dX9_feed_49 : decode cX9_feed 49 = .ok (.aload_n 0, 1) := by decide +kernel
theorem dX9_feed_50 : decode cX9_feed 50 = .ok (.getfield 46, 3) := by decide +kernel
theorem dX9_feed_53 : decode cX9_feed 53 = .ok (.aload_n 0, 1) := by decide +kernel
theorem dX9_feed_54 : decode cX9_feed 54 = .ok (.getfield 184, 3) := by decide +kernel
theorem dX9_feed_57 : decode cX9_feed 57 = .ok (.iload 5, 2) := by decide +kernel
theorem dX9_feed_59 : decode cX9_feed 59 = .ok (.bipush 24, 2) := by decide +kernel
theorem dX9_feed_61 : decode cX9_feed 61 = .ok (.bipush 8, 2) := by decide +kernel
theorem dX9_feed_63 : decode cX9_feed 63 = .ok (.iload 4, 2) := by decide +kernel
theorem dX9_feed_65 : decode cX9_feed 65 = .ok (.iconst 4, 1) := by decide +kernel
theorem dX9_feed_66 : decode cX9_feed 66 = .ok (.irem, 1) := by decide +kernel
theorem dX9_feed_67 : decode cX9_feed 67 = .ok (.imul, 1) := by decide +kernel
theorem dX9_feed_68 : decode cX9_feed 68 = .ok (.isub, 1) := by decide +kernel
theorem dX9_feed_69 : decode cX9_feed 69 = .ok (.ishr, 1) := by decide +kernel
theorem dX9_feed_70 : decode cX9_feed 70 = .ok (.sipush 255, 3) := by decide +kernel
theorem dX9_feed_73 : decode cX9_feed 73 = .ok (.iand, 1) := by decide +kernel
theorem dX9_feed_74 : decode cX9_feed 74 = .ok (.iastore, 1) := by decide +kernel
theorem dX9_feed_75 : decode cX9_feed 75 = .ok (.aload_n 0, 1) := by decide +kernel
theorem dX9_feed_76 : decode cX9_feed 76 = .ok (.dup, 1) := by decide +kernel
theorem dX9_feed_77 : decode cX9_feed 77 = .ok (.getfield 184, 3) := by decide +kernel
theorem dX9_feed_80 : decode cX9_feed 80 = .ok (.iconst 1, 1) := by decide +kernel
theorem dX9_feed_81 : decode cX9_feed 81 = .ok (.iadd, 1) := by decide +kernel
theorem dX9_feed_82 : decode cX9_feed 82 = .ok (.putfield 184, 3) := by decide +kernel
theorem dX9_feed_85 : decode cX9_feed 85 = .ok (.iinc 4 1, 3) := by decide +kernel
theorem dX9_feed_88 : decode cX9_feed 88 = .ok (.goto (-70), 3) := by decide +kernel
theorem dX9_feed_91 : decode cX9_feed 91 = .ok (.aload_n 0, 1) := by decide +kernel
theorem dX9_feed_92 : decode cX9_feed 92 = .ok (.getfield 184, 3) := by decide +kernel
theorem dX9_feed_95 : decode cX9_feed 95 = .ok (.ireturn, 1) := by decide +kernel
theorem dX9_trim_0 : decode cX9_trim 0 = .ok (.iload_n 1, 1) := by decide +kernel
theorem dX9_trim_1 : decode cX9_trim 1 = .ok (.i2l, 1) := by decide +kernel
theorem dX9_trim_2 : decode cX9_trim 2 = .ok (.lconst 0, 1) := by decide +kernel
theorem dX9_trim_3 : decode cX9_trim 3 = .ok (.aload_n 0, 1) := by decide +kernel
theorem dX9_trim_4 : decode cX9_trim 4 = .ok (.getfield 184, 3) := by decide +kernel
theorem dX9_trim_7 : decode cX9_trim 7 = .ok (.i2l, 1) := by decide +kernel
theorem dX9_trim_8 : decode cX9_trim 8 = .ok (.invokestatic 65, 3) := by decide +kernel
theorem dX9_trim_11 : decode cX9_trim 11 = .ok (.ifCond .ne 6, 3) := by decide +kernel
theorem dX9_trim_14 : decode cX9_trim 14 = .ok (.ldc 98, 2) := by decide +kernel
theorem dX9_trim_16 : decode cX9_trim 16 = .ok (.ireturn, 1) := by decide +kernel
theorem dX9_trim_17 : decode cX9_trim 17 = .ok (.aload_n 0, 1) := by decide +kernel
theorem dX9_trim_18 : decode cX9_trim 18 = .ok (.iload_n 1, 1) := by decide +kernel
theorem dX9_trim_19 : decode cX9_trim 19 = .ok (.putfield 184, 3) := by decide +kernel
theorem dX9_trim_22 : decode cX9_trim 22 = .ok (.iload_n 1, 1) := by decide +kernel
theorem dX9_trim_23 : decode cX9_trim 23 = .ok (.ireturn, 1) := by decide +kernel
theorem dX9_isLetter_0 : decode cX9_isLetter 0 = .ok (.iload_n 1, 1) := by decide +kernel
theorem dX9_isLetter_1 : decode cX9_isLetter 1 = .ok (.aload_n 0, 1) := by decide +kernel
theorem dX9_isLetter_2 : decode cX9_isLetter 2 = .ok (.getfield 184, 3) := by decide +kernel
theorem dX9_isLetter_5 : decode cX9_isLetter 5 = .ok (.if_icmp .ge 26, 3) := by decide +kernel
theorem dX9_isLetter_8 : decode cX9_isLetter 8 = .ok (.aload_n 0, 1) := by decide +kernel
theorem dX9_isLetter_9 : decode cX9_isLetter 9 = .ok (.getfield 46, 3) := by decide +kernel
theorem dX9_isLetter_12 : decode cX9_isLetter 12 = .ok (.iload_n 1, 1) := by decide +kernel
theorem dX9_isLetter_13 : decode cX9_isLetter 13 = .ok (.iaload, 1) := by decide +kernel
theorem dX9_isLetter_14 : decode cX9_isLetter 14 = .ok (.i2l, 1) := by decide +kernel
theorem dX9_isLetter_15 : decode cX9_isLetter 15 = .ok (.ldc2_w 188, 3) := by decide +kernel
theorem dX9_isLetter_18 : decode cX9_isLetter 18 = .ok (.ldc2_w 190, 3) := by decide +kernel
theorem dX9_isLetter_21 : decode cX9_isLetter 21 = .ok (.invokestatic 65, 3) := by decide +kernel
theorem dX9_isLetter_24 : decode cX9_isLetter 24 = .ok (.ifCond .eq 7, 3) := by decide +kernel
theorem dX9_isLetter_27 : decode cX9_isLetter 27 = .ok (.iconst 1, 1) := by decide +kernel
theorem dX9_isLetter_28 : decode cX9_isLetter 28 = .ok (.goto 4, 3) := by decide +kernel
theorem dX9_isLetter_31 : decode cX9_isLetter 31 = .ok (.iconst 0, 1) := by decide +kernel
theorem dX9_isLetter_32 : decode cX9_isLetter 32 = .ok (.ireturn, 1) := by decide +kernel
theorem dX9_isDigit_0 : decode cX9_isDigit 0 = .ok (.iload_n 1, 1) := by decide +kernel
theorem dX9_isDigit_1 : decode cX9_isDigit 1 = .ok (.aload_n 0, 1) := by decide +kernel
theorem dX9_isDigit_2 : decode cX9_isDigit 2 = .ok (.getfield 184, 3) := by decide +kernel
theorem dX9_isDigit_5 : decode cX9_isDigit 5 = .ok (.if_icmp .ge 26, 3) := by decide +kernel
theorem dX9_isDigit_8 : decode cX9_isDigit 8 = .ok (.aload_n 0, 1) := by decide +kernel
theorem dX9_isDigit_9 : decode cX9_isDigit 9 = .ok (.getfield 46, 3) := by decide +kernel
theorem dX9_isDigit_12 : decode cX9_isDigit 12 = .ok (.iload_n 1, 1) := by decide +kernel
theorem dX9_isDigit_13 : decode cX9_isDigit 13 = .ok (.iaload, 1) := by decide +kernel
theorem dX9_isDigit_14 : decode cX9_isDigit 14 = .ok (.i2l, 1) := by decide +kernel
theorem dX9_isDigit_15 : decode cX9_isDigit 15 = .ok (.ldc2_w 192, 3) := by decide +kernel
theorem dX9_isDigit_18 : decode cX9_isDigit 18 = .ok (.ldc2_w 194, 3) := by decide +kernel
theorem dX9_isDigit_21 : decode cX9_isDigit 21 = .ok (.invokestatic 65, 3) := by decide +kernel
theorem dX9_isDigit_24 : decode cX9_isDigit 24 = .ok (.ifCond .eq 7, 3) := by decide +kernel
theorem dX9_isDigit_27 : decode cX9_isDigit 27 = .ok (.iconst 1, 1) := by decide +kernel
theorem dX9_isDigit_28 : decode cX9_isDigit 28 = .ok (.goto 4, 3) := by decide +kernel
theorem dX9_isDigit_31 : decode cX9_isDigit 31 = .ok (.iconst 0, 1) := by decide +kernel
theorem dX9_isDigit_32 : decode cX9_isDigit 32 = .ok (.ireturn, 1) := by decide +kernel
theorem dX9_nextToken_0 : decode cX9_nextToken 0 = .ok (.aload_n 0, 1) := by decide +kernel
theorem dX9_nextToken_1 : decode cX9_nextToken 1 = .ok (.getfield 196, 3) := by decide +kernel
theorem dX9_nextToken_4 : decode cX9_nextToken 4 = .ok (.ifCond .le 23, 3) := by decide +kernel
theorem dX9_nextToken_7 : decode cX9_nextToken 7 = .ok (.aload_n 0, 1) := by decide +kernel
theorem dX9_nextToken_8 : decode cX9_nextToken 8 = .ok (.getfield 199, 3) := by decide +kernel
theorem dX9_nextToken_11 : decode cX9_nextToken 11 = .ok (.iconst 1, 1) := by decide +kernel
theorem dX9_nextToken_12 : decode cX9_nextToken 12 = .ok (.if_icmp .eq 11, 3) := by decide +kernel
theorem dX9_nextToken_15 : decode cX9_nextToken 15 = .ok (.aload_n 0, 1) := by decide +kernel
theorem dX9_nextToken_16 : decode cX9_nextToken 16 = .ok (.getfield 199, 3) := by decide +kernel
theorem dX9_nextToken_19 : decode cX9_nextToken 19 = .ok (.iconst 2, 1) := by decide +kernel
theorem dX9_nextToken_20 : decode cX9_nextToken 20 = .ok (.if_icmp .ne 7, 3) := by decide +kernel
theorem dX9_nextToken_23 : decode cX9_nextToken 23 = .ok (.iconst 1, 1) := by decide +kernel
theorem dX9_nextToken_24 : decode cX9_nextToken 24 = .ok (.goto 4, 3) := by decide +kernel
theorem dX9_nextToken_27 : decode cX9_nextToken 27 = .ok (.iconst 0, 1) := by decide +kernel
theorem dX9_nextToken_28 : decode cX9_nextToken 28 = .ok (.istore_n 1, 1) := by decide +kernel
theorem dX9_nextToken_29 : decode cX9_nextToken 29 = .ok (.aload_n 0, 1) := by decide +kernel
theorem dX9_nextToken_30 : decode cX9_nextToken 30 = .ok (.getfield 196, 3) := by decide +kernel
theorem dX9_nextToken_33 : decode cX9_nextToken 33 = .ok (.istore_n 2, 1) := by decide +kernel
theorem dX9_nextToken_34 : decode cX9_nextToken 34 = .ok (.aload_n 0, 1) := by decide +kernel
theorem dX9_nextToken_35 : decode cX9_nextToken 35 = .ok (.getfield 196, 3) := by decide +kernel
theorem dX9_nextToken_38 : decode cX9_nextToken 38 = .ok (.aload_n 0, 1) := by decide +kernel
theorem dX9_nextToken_39 : decode cX9_nextToken 39 = .ok (.getfield 184, 3) := by decide +kernel
theorem dX9_nextToken_42 : decode cX9_nextToken 42 = .ok (.if_icmp .ge 30, 3) := by decide +kernel
theorem dX9_nextToken_45 : decode cX9_nextToken 45 = .ok (.aload_n 0, 1) := by decide +kernel
theorem dX9_nextToken_46 : decode cX9_nextToken 46 = .ok (.getfield 46, 3) := by decide +kernel
theorem dX9_nextToken_49 : decode cX9_nextToken 49 = .ok (.aload_n 0, 1) := by decide +kernel
theorem dX9_nextToken_50 : decode cX9_nextToken 50 = .ok (.getfield 196, 3) := by decide +kernel
theorem dX9_nextToken_53 : decode cX9_nextToken 53 = .ok (.iaload, 1) := by decide +kernel
theorem dX9_nextToken_54 : decode cX9_nextToken 54 = .ok (.bipush 32, 2) := by decide +kernel
theorem dX9_nextToken_56 : decode cX9_nextToken 56 = .ok (.if_icmp .ne 16, 3) := by decide +kernel
theorem dX9_nextToken_59 : decode cX9_nextToken 59 = .ok (.aload_n 0, 1) := by decide +kernel
theorem dX9_nextToken_60 : decode cX9_nextToken 60 = .ok (.dup, 1) := by decide +kernel
theorem dX9_nextToken_61 : decode cX9_nextToken 61 = .ok (.getfield 196, 3) := by decide +kernel
theorem dX9_nextToken_64 : decode cX9_nextToken 64 = .ok (.iconst 1, 1) := by decide +kernel
theorem dX9_nextToken_65 : decode cX9_nextToken 65 = .ok (.iadd, 1) := by decide +kernel
theorem dX9_nextToken_66 : decode cX9_nextToken 66 = .ok (.putfield 196, 3) := by decide +kernel
theorem dX9_nextToken_69 : decode cX9_nextToken 69 = .ok (.goto (-35), 3) := by decide +kernel
theorem dX9_nextToken_72 : decode cX9_nextToken 72 = .ok (.iload_n 1, 1) := by decide +kernel
theorem dX9_nextToken_73 : decode cX9_nextToken 73 = .ok (.ifCond .eq 15, 3) := by decide +kernel
theorem dX9_nextToken_76 : decode cX9_nextToken 76 = .ok (.iload_n 2, 1) := by decide +kernel
theorem dX9_nextToken_77 : decode cX9_nextToken 77 = .ok (.aload_n 0, 1) := by decide +kernel
theorem dX9_nextToken_78 : decode cX9_nextToken 78 = .ok (.getfield 196, 3) := by decide +kernel
theorem dX9_nextToken_81 : decode cX9_nextToken 81 = .ok (.if_icmp .ne 7, 3) := by decide +kernel
theorem dX9_nextToken_84 : decode cX9_nextToken 84 = .ok (.iconst 1, 1) := by decide +kernel
theorem dX9_nextToken_85 : decode cX9_nextToken 85 = .ok (.goto 4, 3) := by decide +kernel
theorem dX9_nextToken_88 : decode cX9_nextToken 88 = .ok (.iconst 0, 1) := by decide +kernel
theorem dX9_nextToken_89 : decode cX9_nextToken 89 = .ok (.istore_n 1, 1) := by decide +kernel
theorem dX9_nextToken_90 : decode cX9_nextToken 90 = .ok (.aload_n 0, 1) := by decide +kernel
theorem dX9_nextToken_91 : decode cX9_nextToken 91 = .ok (.aload_n 0, 1) := by decide +kernel
theorem dX9_nextToken_92 : decode cX9_nextToken 92 = .ok (.getfield 196, 3) := by decide +kernel
theorem dX9_nextToken_95 : decode cX9_nextToken 95 = .ok (.putfield 202, 3) := by decide +kernel
theorem dX9_nextToken_98 : decode cX9_nextToken 98 = .ok (.aload_n 0, 1) := by decide +kernel
theorem dX9_nextToken_99 : decode cX9_nextToken 99 = .ok (.getfield 202, 3) := by decide +kernel
theorem dX9_nextToken_102 : decode cX9_nextToken 102 = .ok (.aload_n 0, 1) := by decide +kernel
theorem dX9_nextToken_103 : decode cX9_nextToken 103 = .ok (.getfield 184, 3) := by decide +kernel
theorem dX9_nextToken_106 : decode cX9_nextToken 106 = .ok (.if_icmp .ne 11, 3) := by decide +kernel
theorem dX9_nextToken_109 : decode cX9_nextToken 109 = .ok (.aload_n 0, 1) := by decide +kernel
theorem dX9_nextToken_110 : decode cX9_nextToken 110 = .ok (.iconst 0, 1) := by decide +kernel
theorem dX9_nextToken_111 : decode cX9_nextToken 111 = .ok (.putfield 199, 3) := by decide +kernel
theorem dX9_nextToken_114 : decode cX9_nextToken 114 = .ok (.goto 225, 3) := by decide +kernel
theorem dX9_nextToken_117 : decode cX9_nextToken 117 = .ok (.aload_n 0, 1) := by decide +kernel
theorem dX9_nextToken_118 : decode cX9_nextToken 118 = .ok (.aload_n 0, 1) := by decide +kernel
theorem dX9_nextToken_119 : decode cX9_nextToken 119 = .ok (.getfield 202, 3) := by decide +kernel
theorem dX9_nextToken_122 : decode cX9_nextToken 122 = .ok (.invokevirtual 205, 3) := by decide +kernel
theorem dX9_nextToken_125 : decode cX9_nextToken 125 = .ok (.ifCond .eq 73, 3) := by decide +kernel
theorem dX9_nextToken_128 : decode cX9_nextToken 128 = .ok (.aload_n 0, 1) := by decide +kernel
theorem dX9_nextToken_129 : decode cX9_nextToken 129 = .ok (.aload_n 0, 1) := by decide +kernel
theorem dX9_nextToken_130 : decode cX9_nextToken 130 = .ok (.getfield 196, 3) := by decide +kernel
theorem dX9_nextToken_133 : decode cX9_nextToken 133 = .ok (.invokevirtual 205, 3) := by decide +kernel
theorem dX9_nextToken_136 : decode cX9_nextToken 136 = .ok (.ifCond .eq 16, 3) := by decide +kernel
theorem dX9_nextToken_139 : decode cX9_nextToken 139 = .ok (.aload_n 0, 1) := by decide +kernel
theorem dX9_nextToken_140 : decode cX9_nextToken 140 = .ok (.dup, 1) := by decide +kernel
theorem dX9_nextToken_141 : decode cX9_nextToken 141 = .ok (.getfield 196, 3) := by decide +kernel
theorem dX9_nextToken_144 : decode cX9_nextToken 144 = .ok (.iconst 1, 1) := by decide +kernel
theorem dX9_nextToken_145 : decode cX9_nextToken 145 = .ok (.iadd, 1) := by decide +kernel
theorem dX9_nextToken_146 : decode cX9_nextToken 146 = .ok (.putfield 196, 3) := by decide +kernel
theorem dX9_nextToken_149 : decode cX9_nextToken 149 = .ok (.goto (-21), 3) := by decide +kernel
theorem dX9_nextToken_152 : decode cX9_nextToken 152 = .ok (.aload_n 0, 1) := by decide +kernel
theorem dX9_nextToken_153 : decode cX9_nextToken 153 = .ok (.iload_n 1, 1) := by decide +kernel
theorem dX9_nextToken_154 : decode cX9_nextToken 154 = .ok (.ifCond .eq 7, 3) := by decide +kernel
theorem dX9_nextToken_157 : decode cX9_nextToken 157 = .ok (.iconst 4, 1) := by decide +kernel
theorem dX9_nextToken_158 : decode cX9_nextToken 158 = .ok (.goto 4, 3) := by decide +kernel
theorem dX9_nextToken_161 : decode cX9_nextToken 161 = .ok (.iconst 1, 1) := by decide +kernel
theorem dX9_nextToken_162 : decode cX9_nextToken 162 = .ok (.putfield 199, 3) := by decide +kernel
theorem dX9_nextToken_165 : decode cX9_nextToken 165 = .ok (.aload_n 0, 1) := by decide +kernel
theorem dX9_nextToken_166 : decode cX9_nextToken 166 = .ok (.aload_n 0, 1) := by decide +kernel
theorem dX9_nextToken_167 : decode cX9_nextToken 167 = .ok (.getfield 196, 3) := by decide +kernel
theorem dX9_nextToken_170 : decode cX9_nextToken 170 = .ok (.aload_n 0, 1) := by decide +kernel
theorem dX9_nextToken_171 : decode cX9_nextToken 171 = .ok (.getfield 202, 3) := by decide +kernel
theorem dX9_nextToken_174 : decode cX9_nextToken 174 = .ok (.isub, 1) := by decide +kernel
theorem dX9_nextToken_175 : decode cX9_nextToken 175 = .ok (.iconst 1, 1) := by decide +kernel
theorem dX9_nextToken_176 : decode cX9_nextToken 176 = .ok (.if_icmp .ne 15, 3) := by decide +kernel
theorem dX9_nextToken_179 : decode cX9_nextToken 179 = .ok (.aload_n 0, 1) := by decide +kernel
theorem dX9_nextToken_180 : decode cX9_nextToken 180 = .ok (.getfield 46, 3) := by decide +kernel
theorem dX9_nextToken_183 : decode cX9_nextToken 183 = .ok (.aload_n 0, 1) := by decide +kernel
theorem dX9_nextToken_184 : decode cX9_nextToken 184 = .ok (.getfield 202, 3) := by decide +kernel
theorem dX9_nextToken_187 : decode cX9_nextToken 187 = .ok (.iaload, 1) := by decide +kernel
theorem dX9_nextToken_188 : decode cX9_nextToken 188 = .ok (.goto 4, 3) := by decide +kernel
theorem dX9_nextToken_191 : decode cX9_nextToken 191 = .ok (.iconst 0, 1) := by decide +kernel
theorem dX9_nextToken_192 : decode cX9_nextToken 192 = .ok (.putfield 208, 3) := by decide +kernel
theorem dX9_nextToken_195 : decode cX9_nextToken 195 = .ok (.goto 144, 3) := by decide +kernel
theorem dX9_nextToken_198 : decode cX9_nextToken 198 = .ok (.aload_n 0, 1) := by decide +kernel
theorem dX9_nextToken_199 : decode cX9_nextToken 199 = .ok (.aload_n 0, 1) := by decide +kernel
theorem dX9_nextToken_200 : decode cX9_nextToken 200 = .ok (.getfield 202, 3) := by decide +kernel
theorem dX9_nextToken_203 : decode cX9_nextToken 203 = .ok (.invokevirtual 211, 3) := by decide +kernel
theorem dX9_nextToken_206 : decode cX9_nextToken 206 = .ok (.ifCond .eq 105, 3) := by decide +kernel
theorem dX9_nextToken_209 : decode cX9_nextToken 209 = .ok (.aload_n 0, 1) := by decide +kernel
theorem dX9_nextToken_210 : decode cX9_nextToken 210 = .ok (.iconst 0, 1) := by decide +kernel
theorem dX9_nextToken_211 : decode cX9_nextToken 211 = .ok (.putfield 214, 3) := by decide +kernel
theorem dX9_nextToken_214 : decode cX9_nextToken 214 = .ok (.aload_n 0, 1) := by decide +kernel
theorem dX9_nextToken_215 : decode cX9_nextToken 215 = .ok (.aload_n 0, 1) := by decide +kernel
theorem dX9_nextToken_216 : decode cX9_nextToken 216 = .ok (.getfield 196, 3) := by decide +kernel
theorem dX9_nextToken_219 : decode cX9_nextToken 219 = .ok (.invokevirtual 211, 3) := by decide +kernel
theorem dX9_nextToken_222 : decode cX9_nextToken 222 = .ok (.ifCond .eq 60, 3) := by decide +kernel
theorem dX9_nextToken_225 : decode cX9_nextToken 225 = .ok (.aload_n 0, 1) := by decide +kernel
theorem dX9_nextToken_226 : decode cX9_nextToken 226 = .ok (.aload_n 0, 1) := by decide +kernel
theorem dX9_nextToken_227 : decode cX9_nextToken 227 = .ok (.getfield 196, 3) := by decide +kernel
theorem dX9_nextToken_230 : decode cX9_nextToken 230 = .ok (.aload_n 0, 1) := by decide +kernel
theorem dX9_nextToken_231 : decode cX9_nextToken 231 = .ok (.getfield 202, 3) := by decide +kernel
theorem dX9_nextToken_234 : decode cX9_nextToken 234 = .ok (.isub, 1) := by decide +kernel
theorem dX9_nextToken_235 : decode cX9_nextToken 235 = .ok (.iconst 4, 1) := by decide +kernel
theorem dX9_nextToken_236 : decode cX9_nextToken 236 = .ok (.if_icmp .ge 26, 3) := by decide +kernel
theorem dX9_nextToken_239 : decode cX9_nextToken 239 = .ok (.bipush 10, 2) := by decide +kernel
theorem dX9_nextToken_241 : decode cX9_nextToken 241 = .ok (.aload_n 0, 1) := by decide +kernel
theorem dX9_nextToken_242 : decode cX9_nextToken 242 = .ok (.getfield 214, 3) := by decide +kernel
theorem dX9_nextToken_245 : decode cX9_nextToken 245 = .ok (.imul, 1) := by decide +kernel
theorem dX9_nextToken_246 : decode cX9_nextToken 246 = .ok (.aload_n 0, 1) := by decide +kernel
theorem dX9_nextToken_247 : decode cX9_nextToken 247 = .ok (.getfield 46, 3) := by decide +kernel
theorem dX9_nextToken_250 : decode cX9_nextToken 250 = .ok (.aload_n 0, 1) := by decide +kernel
theorem dX9_nextToken_251 : decode cX9_nextToken 251 = .ok (.getfield 196, 3) := by decide +kernel
theorem dX9_nextToken_254 : decode cX9_nextToken 254 = .ok (.iaload, 1) := by decide +kernel
theorem dX9_nextToken_255 : decode cX9_nextToken 255 = .ok (.iadd, 1) := by decide +kernel
theorem dX9_nextToken_256 : decode cX9_nextToken 256 = .ok (.bipush 48, 2) := by decide +kernel
theorem dX9_nextToken_258 : decode cX9_nextToken 258 = .ok (.isub, 1) := by decide +kernel
theorem dX9_nextToken_259 : decode cX9_nextToken 259 = .ok (.goto 7, 3) := by decide +kernel
theorem dX9_nextToken_262 : decode cX9_nextToken 262 = .ok (.aload_n 0, 1) := by decide +kernel
theorem dX9_nextToken_263 : decode cX9_nextToken 263 = .ok (.getfield 214, 3) := by decide +kernel
theorem dX9_nextToken_266 : decode cX9_nextToken 266 = .ok (.putfield 214, 3) := by decide +kernel
theorem dX9_nextToken_269 : decode cX9_nextToken 269 = .ok (.aload_n 0, 1) := by decide +kernel
theorem dX9_nextToken_270 : decode cX9_nextToken 270 = .ok (.dup, 1) := by decide +kernel
theorem dX9_nextToken_271 : decode cX9_nextToken 271 = .ok (.getfield 196, 3) := by decide +kernel
theorem dX9_nextToken_274 : decode cX9_nextToken 274 = .ok (.iconst 1, 1) := by decide +kernel
theorem dX9_nextToken_275 : decode cX9_nextToken 275 = .ok (.iadd, 1) := by decide +kernel
theorem dX9_nextToken_276 : decode cX9_nextToken 276 = .ok (.putfield 196, 3) := by decide +kernel
theorem dX9_nextToken_279 : decode cX9_nextToken 279 = .ok (.goto (-65), 3) := by decide +kernel
theorem dX9_nextToken_282 : decode cX9_nextToken 282 = .ok (.aload_n 0, 1) := by decide +kernel
theorem dX9_nextToken_283 : decode cX9_nextToken 283 = .ok (.iload_n 1, 1) := by decide +kernel
theorem dX9_nextToken_284 : decode cX9_nextToken 284 = .ok (.ifCond .ne 16, 3) := by decide +kernel
theorem dX9_nextToken_287 : decode cX9_nextToken 287 = .ok (.aload_n 0, 1) := by decide +kernel
theorem dX9_nextToken_288 : decode cX9_nextToken 288 = .ok (.getfield 196, 3) := by decide +kernel
theorem dX9_nextToken_291 : decode cX9_nextToken 291 = .ok (.aload_n 0, 1) := by decide +kernel
theorem dX9_nextToken_292 : decode cX9_nextToken 292 = .ok (.getfield 202, 3) := by decide +kernel
theorem dX9_nextToken_295 : decode cX9_nextToken 295 = .ok (.isub, 1) := by decide +kernel
theorem dX9_nextToken_296 : decode cX9_nextToken 296 = .ok (.iconst 4, 1) := by decide +kernel
theorem dX9_nextToken_297 : decode cX9_nextToken 297 = .ok (.if_icmp .le 7, 3) := by decide +kernel
theorem dX9_nextToken_300 : decode cX9_nextToken 300 = .ok (.iconst 4, 1) := by decide +kernel
theorem dX9_nextToken_301 : decode cX9_nextToken 301 = .ok (.goto 4, 3) := by decide +kernel
theorem dX9_nextToken_304 : decode cX9_nextToken 304 = .ok (.iconst 2, 1) := by decide +kernel
theorem dX9_nextToken_305 : decode cX9_nextToken 305 = .ok (.putfield 199, 3) := by decide +kernel
theorem dX9_nextToken_308 : decode cX9_nextToken 308 = .ok (.goto 31, 3) := by decide +kernel
theorem dX9_nextToken_311 : decode cX9_nextToken 311 = .ok (.aload_n 0, 1) := by decide +kernel
theorem dX9_nextToken_312 : decode cX9_nextToken 312 = .ok (.iconst 3, 1) := by decide +kernel
theorem dX9_nextToken_313 : decode cX9_nextToken 313 = .ok (.putfield 199, 3) := by decide +kernel
theorem dX9_nextToken_316 : decode cX9_nextToken 316 = .ok (.aload_n 0, 1) := by decide +kernel
theorem dX9_nextToken_317 : decode cX9_nextToken 317 = .ok (.aload_n 0, 1) := by decide +kernel
theorem dX9_nextToken_318 : decode cX9_nextToken 318 = .ok (.getfield 46, 3) := by decide +kernel
theorem dX9_nextToken_321 : decode cX9_nextToken 321 = .ok (.aload_n 0, 1) := by decide +kernel
theorem dX9_nextToken_322 : decode cX9_nextToken 322 = .ok (.getfield 202, 3) := by decide +kernel
theorem dX9_nextToken_325 : decode cX9_nextToken 325 = .ok (.iaload, 1) := by decide +kernel
theorem dX9_nextToken_326 : decode cX9_nextToken 326 = .ok (.putfield 208, 3) := by decide +kernel
theorem dX9_nextToken_329 : decode cX9_nextToken 329 = .ok (.aload_n 0, 1) := by decide +kernel
theorem dX9_nextToken_330 : decode cX9_nextToken 330 = .ok (.dup, 1) := by decide +kernel
theorem dX9_nextToken_331 : decode cX9_nextToken 331 = .ok (.getfield 196, 3) := by decide +kernel
theorem dX9_nextToken_334 : decode cX9_nextToken 334 = .ok (.iconst 1, 1) := by decide +kernel
theorem dX9_nextToken_335 : decode cX9_nextToken 335 = .ok (.iadd, 1) := by decide +kernel
theorem dX9_nextToken_336 : decode cX9_nextToken 336 = .ok (.putfield 196, 3) := by decide +kernel
theorem dX9_nextToken_339 : decode cX9_nextToken 339 = .ok (.return_, 1) := by decide +kernel
theorem dX9_isSign_0 : decode cX9_isSign 0 = .ok (.aload_n 0, 1) := by decide +kernel
theorem dX9_isSign_1 : decode cX9_isSign 1 = .ok (.getfield 199, 3) := by decide +kernel
theorem dX9_isSign_4 : decode cX9_isSign 4 = .ok (.iconst 3, 1) := by decide +kernel
theorem dX9_isSign_5 : decode cX9_isSign 5 = .ok (.if_icmp .ne 15, 3) := by decide +kernel
theorem dX9_isSign_8 : decode cX9_isSign 8 = .ok (.aload_n 0, 1) := by decide +kernel
theorem dX9_isSign_9 : decode cX9_isSign 9 = .ok (.getfield 208, 3) := by decide +kernel
theorem dX9_isSign_12 : decode cX9_isSign 12 = .ok (.iload_n 1, 1) := by decide +kernel
theorem dX9_isSign_13 : decode cX9_isSign 13 = .ok (.if_icmp .ne 7, 3) := by decide +kernel
theorem dX9_isSign_16 : decode cX9_isSign 16 = .ok (.iconst 1, 1) := by decide +kernel
theorem dX9_isSign_17 : decode cX9_isSign 17 = .ok (.goto 4, 3) := by decide +kernel
theorem dX9_isSign_20 : decode cX9_isSign 20 = .ok (.iconst 0, 1) := by decide +kernel
theorem dX9_isSign_21 : decode cX9_isSign 21 = .ok (.ireturn, 1) := by decide +kernel
theorem dX9_isWordAt_0 : decode cX9_isWordAt 0 = .ok (.iload 4, 2) := by decide +kernel
theorem dX9_isWordAt_2 : decode cX9_isWordAt 2 = .ok (.ifCond .ne 7, 3) := by decide +kernel
theorem dX9_isWordAt_5 : decode cX9_isWordAt 5 = .ok (.iconst 3, 1) := by decide +kernel
theorem dX9_isWordAt_6 : decode cX9_isWordAt 6 = .ok (.goto 4, 3) := by decide +kernel
theorem dX9_isWordAt_9 : decode cX9_isWordAt 9 = .ok (.iconst 4, 1) := by decide +kernel
theorem dX9_isWordAt_10 : decode cX9_isWordAt 10 = .ok (.istore 5, 2) := by decide +kernel
theorem dX9_isWordAt_12 : decode cX9_isWordAt 12 = .ok (.aload_n 0, 1) := by decide +kernel
theorem dX9_isWordAt_13 : decode cX9_isWordAt 13 = .ok (.getfield 199, 3) := by decide +kernel
theorem dX9_isWordAt_16 : decode cX9_isWordAt 16 = .ok (.iconst 1, 1) := by decide +kernel
theorem dX9_isWordAt_17 : decode cX9_isWordAt 17 = .ok (.if_icmp .ne 85, 3) := by decide +kernel
theorem dX9_isWordAt_20 : decode cX9_isWordAt 20 = .ok (.aload_n 0, 1) := by decide +kernel
theorem dX9_isWordAt_21 : decode cX9_isWordAt 21 = .ok (.getfield 196, 3) := by decide +kernel
theorem dX9_isWordAt_24 : decode cX9_isWordAt 24 = .ok (.aload_n 0, 1) := by decide +kernel
theorem dX9_isWordAt_25 : decode cX9_isWordAt 25 = .ok (.getfield 202, 3) := by decide +kernel
theorem dX9_isWordAt_28 : decode cX9_isWordAt 28 = .ok (.isub, 1) := by decide +kernel
theorem dX9_isWordAt_29 : decode cX9_isWordAt 29 = .ok (.iload 5, 2) := by decide +kernel
theorem dX9_isWordAt_31 : decode cX9_isWordAt 31 = .ok (.if_icmp .ne 71, 3) := by decide +kernel
theorem dX9_isWordAt_34 : decode cX9_isWordAt 34 = .ok (.aload_n 0, 1) := by decide +kernel
theorem dX9_isWordAt_35 : decode cX9_isWordAt 35 = .ok (.getfield 46, 3) := by decide +kernel
theorem dX9_isWordAt_38 : decode cX9_isWordAt 38 = .ok (.aload_n 0, 1) := by decide +kernel
theorem dX9_isWordAt_39 : decode cX9_isWordAt 39 = .ok (.getfield 202, 3) := by decide +kernel
theorem dX9_isWordAt_42 : decode cX9_isWordAt 42 = .ok (.iaload, 1) := by decide +kernel
theorem dX9_isWordAt_43 : decode cX9_isWordAt 43 = .ok (.iload_n 1, 1) := by decide +kernel
theorem dX9_isWordAt_44 : decode cX9_isWordAt 44 = .ok (.if_icmp .ne 58, 3) := by decide +kernel
theorem dX9_isWordAt_47 : decode cX9_isWordAt 47 = .ok (.aload_n 0, 1) := by decide +kernel
theorem dX9_isWordAt_48 : decode cX9_isWordAt 48 = .ok (.getfield 46, 3) := by decide +kernel
theorem dX9_isWordAt_51 : decode cX9_isWordAt 51 = .ok (.aload_n 0, 1) := by decide +kernel
theorem dX9_isWordAt_52 : decode cX9_isWordAt 52 = .ok (.getfield 202, 3) := by decide +kernel
theorem dX9_isWordAt_55 : decode cX9_isWordAt 55 = .ok (.iconst 1, 1) := by decide +kernel
theorem dX9_isWordAt_56 : decode cX9_isWordAt 56 = .ok (.iadd, 1) := by decide +kernel
theorem dX9_isWordAt_57 : decode cX9_isWordAt 57 = .ok (.iaload, 1) := by decide +kernel
theorem dX9_isWordAt_58 : decode cX9_isWordAt 58 = .ok (.iload_n 2, 1) := by decide +kernel
theorem dX9_isWordAt_59 : decode cX9_isWordAt 59 = .ok (.if_icmp .ne 43, 3) := by decide +kernel
theorem dX9_isWordAt_62 : decode cX9_isWordAt 62 = .ok (.aload_n 0, 1) := by decide +kernel
theorem dX9_isWordAt_63 : decode cX9_isWordAt 63 = .ok (.getfield 46, 3) := by decide +kernel
theorem dX9_isWordAt_66 : decode cX9_isWordAt 66 = .ok (.aload_n 0, 1) := by decide +kernel
theorem dX9_isWordAt_67 : decode cX9_isWordAt 67 = .ok (.getfield 202, 3) := by decide +kernel
theorem dX9_isWordAt_70 : decode cX9_isWordAt 70 = .ok (.iconst 2, 1) := by decide +kernel
theorem dX9_isWordAt_71 : decode cX9_isWordAt 71 = .ok (.iadd, 1) := by decide +kernel
theorem dX9_isWordAt_72 : decode cX9_isWordAt 72 = .ok (.iaload, 1) := by decide +kernel
theorem dX9_isWordAt_73 : decode cX9_isWordAt 73 = .ok (.iload_n 3, 1) := by decide +kernel
theorem dX9_isWordAt_74 : decode cX9_isWordAt 74 = .ok (.if_icmp .ne 28, 3) := by decide +kernel
theorem dX9_isWordAt_77 : decode cX9_isWordAt 77 = .ok (.iload 4, 2) := by decide +kernel
theorem dX9_isWordAt_79 : decode cX9_isWordAt 79 = .ok (.ifCond .eq 19, 3) := by decide +kernel
theorem dX9_isWordAt_82 : decode cX9_isWordAt 82 = .ok (.aload_n 0, 1) := by decide +kernel
theorem dX9_isWordAt_83 : decode cX9_isWordAt 83 = .ok (.getfield 46, 3) := by decide +kernel
theorem dX9_isWordAt_86 : decode cX9_isWordAt 86 = .ok (.aload_n 0, 1) := by decide +kernel
theorem dX9_isWordAt_87 : decode cX9_isWordAt 87 = .ok (.getfield 202, 3) := by decide +kernel
theorem dX9_isWordAt_90 : decode cX9_isWordAt 90 = .ok (.iconst 3, 1) := by decide +kernel
theorem dX9_isWordAt_91 : decode cX9_isWordAt 91 = .ok (.iadd, 1) := by decide +kernel
theorem dX9_isWordAt_92 : decode cX9_isWordAt 92 = .ok (.iaload, 1) := by decide +kernel
theorem dX9_isWordAt_93 : decode cX9_isWordAt 93 = .ok (.iload 4, 2) := by decide +kernel
theorem dX9_isWordAt_95 : decode cX9_isWordAt 95 = .ok (.if_icmp .ne 7, 3) := by decide +kernel
theorem dX9_isWordAt_98 : decode cX9_isWordAt 98 = .ok (.iconst 1, 1) := by decide +kernel
theorem dX9_isWordAt_99 : decode cX9_isWordAt 99 = .ok (.goto 4, 3) := by decide +kernel
theorem dX9_isWordAt_102 : decode cX9_isWordAt 102 = .ok (.iconst 0, 1) := by decide +kernel
theorem dX9_isWordAt_103 : decode cX9_isWordAt 103 = .ok (.ireturn, 1) := by decide +kernel
theorem dX9_key_0 : decode cX9_key 0 = .ok (.aload_n 0, 1) := by decide +kernel
theorem dX9_key_1 : decode cX9_key 1 = .ok (.bipush 116, 2) := by decide +kernel
theorem dX9_key_3 : decode cX9_key 3 = .ok (.bipush 105, 2) := by decide +kernel
theorem dX9_key_5 : decode cX9_key 5 = .ok (.bipush 100, 2) := by decide +kernel
theorem dX9_key_7 : decode cX9_key 7 = .ok (.bipush 101, 2) := by decide +kernel
theorem dX9_key_9 : decode cX9_key 9 = .ok (.invokevirtual 217, 3) := by decide +kernel
theorem dX9_key_12 : decode cX9_key 12 = .ok (.ifCond .eq 5, 3) := by decide +kernel
theorem dX9_key_15 : decode cX9_key 15 = .ok (.iconst 0, 1) := by decide +kernel
theorem dX9_key_16 : decode cX9_key 16 = .ok (.ireturn, 1) := by decide +kernel
theorem dX9_key_17 : decode cX9_key 17 = .ok (.aload_n 0, 1) := by decide +kernel
theorem dX9_key_18 : decode cX9_key 18 = .ok (.bipush 103, 2) := by decide +kernel
theorem dX9_key_20 : decode cX9_key 20 = .ok (.bipush 114, 2) := by decide +kernel
theorem dX9_key_22 : decode cX9_key 22 = .ok (.bipush 111, 2) := by decide +kernel
theorem dX9_key_24 : decode cX9_key 24 = .ok (.bipush 119, 2) := by decide +kernel
theorem dX9_key_26 : decode cX9_key 26 = .ok (.invokevirtual 217, 3) := by decide +kernel
theorem dX9_key_29 : decode cX9_key 29 = .ok (.ifCond .eq 5, 3) := by decide +kernel
theorem dX9_key_32 : decode cX9_key 32 = .ok (.iconst 1, 1) := by decide +kernel
theorem dX9_key_33 : decode cX9_key 33 = .ok (.ireturn, 1) := by decide +kernel
theorem dX9_key_34 : decode cX9_key 34 = .ok (.aload_n 0, 1) := by decide +kernel
theorem dX9_key_35 : decode cX9_key 35 = .ok (.bipush 114, 2) := by decide +kernel
theorem dX9_key_37 : decode cX9_key 37 = .ok (.bipush 111, 2) := by decide +kernel
theorem dX9_key_39 : decode cX9_key 39 = .ok (.bipush 111, 2) := by decide +kernel
theorem dX9_key_41 : decode cX9_key 41 = .ok (.bipush 109, 2) := by decide +kernel
theorem dX9_key_43 : decode cX9_key 43 = .ok (.invokevirtual 217, 3) := by decide +kernel
theorem dX9_key_46 : decode cX9_key 46 = .ok (.ifCond .eq 7, 3) := by decide +kernel
theorem dX9_key_49 : decode cX9_key 49 = .ok (.iconst 2, 1) := by decide +kernel
theorem dX9_key_50 : decode cX9_key 50 = .ok (.goto 4, 3) := by decide +kernel
theorem dX9_key_53 : decode cX9_key 53 = .ok (.iconst (-1), 1) := by decide +kernel
theorem dX9_key_54 : decode cX9_key 54 = .ok (.ireturn, 1) := by decide +kernel
theorem dX9_isName_0 : decode cX9_isName 0 = .ok (.iload_n 0, 1) := by decide +kernel
theorem dX9_isName_1 : decode cX9_isName 1 = .ok (.lookupswitch 69 #[(0, 27), (1, 51)], 27) := by decide +kernel
theorem dX9_isName_28 : decode cX9_isName 28 = .ok (.iload_n 1, 1) := by decide +kernel
theorem dX9_isName_29 : decode cX9_isName 29 = .ok (.bipush 104, 2) := by decide +kernel
theorem dX9_isName_31 : decode cX9_isName 31 = .ok (.if_icmp .eq 15, 3) := by decide +kernel
theorem dX9_isName_34 : decode cX9_isName 34 = .ok (.iload_n 1, 1) := by decide +kernel
theorem dX9_isName_35 : decode cX9_isName 35 = .ok (.bipush 100, 2) := by decide +kernel
theorem dX9_isName_37 : decode cX9_isName 37 = .ok (.if_icmp .eq 9, 3) := by decide +kernel
theorem dX9_isName_40 : decode cX9_isName 40 = .ok (.iload_n 1, 1) := by decide +kernel
theorem dX9_isName_41 : decode cX9_isName 41 = .ok (.bipush 115, 2) := by decide +kernel
theorem dX9_isName_43 : decode cX9_isName 43 = .ok (.if_icmp .ne 7, 3) := by decide +kernel
theorem dX9_isName_46 : decode cX9_isName 46 = .ok (.iconst 1, 1) := by decide +kernel
theorem dX9_isName_47 : decode cX9_isName 47 = .ok (.goto 4, 3) := by decide +kernel
theorem dX9_isName_50 : decode cX9_isName 50 = .ok (.iconst 0, 1) := by decide +kernel
theorem dX9_isName_51 : decode cX9_isName 51 = .ok (.ireturn, 1) := by decide +kernel
theorem dX9_isName_52 : decode cX9_isName 52 = .ok (.iload_n 1, 1) := by decide +kernel
theorem dX9_isName_53 : decode cX9_isName 53 = .ok (.bipush 99, 2) := by decide +kernel
theorem dX9_isName_55 : decode cX9_isName 55 = .ok (.if_icmp .eq 9, 3) := by decide +kernel
theorem dX9_isName_58 : decode cX9_isName 58 = .ok (.iload_n 1, 1) := by decide +kernel
theorem dX9_isName_59 : decode cX9_isName 59 = .ok (.bipush 104, 2) := by decide +kernel
theorem dX9_isName_61 : decode cX9_isName 61 = .ok (.if_icmp .ne 7, 3) := by decide +kernel
theorem dX9_isName_64 : decode cX9_isName 64 = .ok (.iconst 1, 1) := by decide +kernel
theorem dX9_isName_65 : decode cX9_isName 65 = .ok (.goto 4, 3) := by decide +kernel
theorem dX9_isName_68 : decode cX9_isName 68 = .ok (.iconst 0, 1) := by decide +kernel
theorem dX9_isName_69 : decode cX9_isName 69 = .ok (.ireturn, 1) := by decide +kernel
theorem dX9_isName_70 : decode cX9_isName 70 = .ok (.iload_n 1, 1) := by decide +kernel
theorem dX9_isName_71 : decode cX9_isName 71 = .ok (.bipush 116, 2) := by decide +kernel
theorem dX9_isName_73 : decode cX9_isName 73 = .ok (.if_icmp .eq 9, 3) := by decide +kernel
theorem dX9_isName_76 : decode cX9_isName 76 = .ok (.iload_n 1, 1) := by decide +kernel
theorem dX9_isName_77 : decode cX9_isName 77 = .ok (.bipush 104, 2) := by decide +kernel
theorem dX9_isName_79 : decode cX9_isName 79 = .ok (.if_icmp .ne 7, 3) := by decide +kernel
theorem dX9_isName_82 : decode cX9_isName 82 = .ok (.iconst 1, 1) := by decide +kernel
theorem dX9_isName_83 : decode cX9_isName 83 = .ok (.goto 4, 3) := by decide +kernel
theorem dX9_isName_86 : decode cX9_isName 86 = .ok (.iconst 0, 1) := by decide +kernel
theorem dX9_isName_87 : decode cX9_isName 87 = .ok (.ireturn, 1) := by decide +kernel
theorem dX9_step_0 : decode cX9_step 0 = .ok (.aload_n 0, 1) := by decide +kernel
theorem dX9_step_1 : decode cX9_step 1 = .ok (.getfield 7, 3) := by decide +kernel
theorem dX9_step_4 : decode cX9_step 4 = .ok (.aload_n 0, 1) := by decide +kernel
theorem dX9_step_5 : decode cX9_step 5 = .ok (.getfield 221, 3) := by decide +kernel
theorem dX9_step_8 : decode cX9_step 8 = .ok (.iconst 2, 1) := by decide +kernel
theorem dX9_step_9 : decode cX9_step 9 = .ok (.aload_n 0, 1) := by decide +kernel
theorem dX9_step_10 : decode cX9_step 10 = .ok (.getfield 224, 3) := by decide +kernel
theorem dX9_step_13 : decode cX9_step 13 = .ok (.imul, 1) := by decide +kernel
theorem dX9_step_14 : decode cX9_step 14 = .ok (.iadd, 1) := by decide +kernel
theorem dX9_step_15 : decode cX9_step 15 = .ok (.iload_n 1, 1) := by decide +kernel
theorem dX9_step_16 : decode cX9_step 16 = .ok (.iastore, 1) := by decide +kernel
theorem dX9_step_17 : decode cX9_step 17 = .ok (.aload_n 0, 1) := by decide +kernel
theorem dX9_step_18 : decode cX9_step 18 = .ok (.getfield 7, 3) := by decide +kernel
theorem dX9_step_21 : decode cX9_step 21 = .ok (.aload_n 0, 1) := by decide +kernel
theorem dX9_step_22 : decode cX9_step 22 = .ok (.getfield 221, 3) := by decide +kernel
theorem dX9_step_25 : decode cX9_step 25 = .ok (.iconst 2, 1) := by decide +kernel
theorem dX9_step_26 : decode cX9_step 26 = .ok (.aload_n 0, 1) := by decide +kernel
theorem dX9_step_27 : decode cX9_step 27 = .ok (.getfield 224, 3) := by decide +kernel
theorem dX9_step_30 : decode cX9_step 30 = .ok (.imul, 1) := by decide +kernel
theorem dX9_step_31 : decode cX9_step 31 = .ok (.iadd, 1) := by decide +kernel
theorem dX9_step_32 : decode cX9_step 32 = .ok (.iconst 1, 1) := by decide +kernel
theorem dX9_step_33 : decode cX9_step 33 = .ok (.iadd, 1) := by decide +kernel
theorem dX9_step_34 : decode cX9_step 34 = .ok (.iload_n 2, 1) := by decide +kernel
theorem dX9_step_35 : decode cX9_step 35 = .ok (.iastore, 1) := by decide +kernel
theorem dX9_step_36 : decode cX9_step 36 = .ok (.aload_n 0, 1) := by decide +kernel
theorem dX9_step_37 : decode cX9_step 37 = .ok (.dup, 1) := by decide +kernel
theorem dX9_step_38 : decode cX9_step 38 = .ok (.getfield 224, 3) := by decide +kernel
theorem dX9_step_41 : decode cX9_step 41 = .ok (.iconst 1, 1) := by decide +kernel
theorem dX9_step_42 : decode cX9_step 42 = .ok (.iadd, 1) := by decide +kernel
theorem dX9_step_43 : decode cX9_step 43 = .ok (.putfield 224, 3) := by decide +kernel
theorem dX9_step_46 : decode cX9_step 46 = .ok (.return_, 1) := by decide +kernel
theorem dX9_either_0 : decode cX9_either 0 = .ok (.aload_n 0, 1) := by decide +kernel
theorem dX9_either_1 : decode cX9_either 1 = .ok (.iload_n 1, 1) := by decide +kernel
theorem dX9_either_2 : decode cX9_either 2 = .ok (.invokevirtual 227, 3) := by decide +kernel
theorem dX9_either_5 : decode cX9_either 5 = .ok (.ifCond .ne 5, 3) := by decide +kernel
theorem dX9_either_8 : decode cX9_either 8 = .ok (.iconst 0, 1) := by decide +kernel
theorem dX9_either_9 : decode cX9_either 9 = .ok (.ireturn, 1) := by decide +kernel
theorem dX9_either_10 : decode cX9_either 10 = .ok (.aload_n 0, 1) := by decide +kernel
theorem dX9_either_11 : decode cX9_either 11 = .ok (.bipush 124, 2) := by decide +kernel
theorem dX9_either_13 : decode cX9_either 13 = .ok (.invokevirtual 230, 3) := by decide +kernel
theorem dX9_either_16 : decode cX9_either 16 = .ok (.ifCond .eq 27, 3) := by decide +kernel
theorem dX9_either_19 : decode cX9_either 19 = .ok (.aload_n 0, 1) := by decide +kernel
theorem dX9_either_20 : decode cX9_either 20 = .ok (.invokevirtual 233, 3) := by decide +kernel
theorem dX9_either_23 : decode cX9_either 23 = .ok (.aload_n 0, 1) := by decide +kernel
theorem dX9_either_24 : decode cX9_either 24 = .ok (.iload_n 1, 1) := by decide +kernel
theorem dX9_either_25 : decode cX9_either 25 = .ok (.invokevirtual 227, 3) := by decide +kernel
theorem dX9_either_28 : decode cX9_either 28 = .ok (.ifCond .ne 5, 3) := by decide +kernel
theorem dX9_either_31 : decode cX9_either 31 = .ok (.iconst 0, 1) := by decide +kernel
theorem dX9_either_32 : decode cX9_either 32 = .ok (.ireturn, 1) := by decide +kernel
theorem dX9_either_33 : decode cX9_either 33 = .ok (.aload_n 0, 1) := by decide +kernel
theorem dX9_either_34 : decode cX9_either 34 = .ok (.iconst 2, 1) := by decide +kernel
theorem dX9_either_35 : decode cX9_either 35 = .ok (.bipush 124, 2) := by decide +kernel
theorem dX9_either_37 : decode cX9_either 37 = .ok (.invokevirtual 236, 3) := by decide +kernel
theorem dX9_either_40 : decode cX9_either 40 = .ok (.goto (-30), 3) := by decide +kernel
theorem dX9_either_43 : decode cX9_either 43 = .ok (.iconst 1, 1) := by decide +kernel
theorem dX9_either_44 : decode cX9_either 44 = .ok (.ireturn, 1) := by decide +kernel
theorem dX9_both_0 : decode cX9_both 0 = .ok (.aload_n 0, 1) := by decide +kernel
theorem dX9_both_1 : decode cX9_both 1 = .ok (.iload_n 1, 1) := by decide +kernel
theorem dX9_both_2 : decode cX9_both 2 = .ok (.invokevirtual 240, 3) := by decide +kernel
theorem dX9_both_5 : decode cX9_both 5 = .ok (.ifCond .ne 5, 3) := by decide +kernel
theorem dX9_both_8 : decode cX9_both 8 = .ok (.iconst 0, 1) := by decide +kernel
theorem dX9_both_9 : decode cX9_both 9 = .ok (.ireturn, 1) := by decide +kernel
theorem dX9_both_10 : decode cX9_both 10 = .ok (.aload_n 0, 1) := by decide +kernel
theorem dX9_both_11 : decode cX9_both 11 = .ok (.bipush 38, 2) := by decide +kernel
theorem dX9_both_13 : decode cX9_both 13 = .ok (.invokevirtual 230, 3) := by decide +kernel
theorem dX9_both_16 : decode cX9_both 16 = .ok (.ifCond .eq 27, 3) := by decide +kernel
theorem dX9_both_19 : decode cX9_both 19 = .ok (.aload_n 0, 1) := by decide +kernel
theorem dX9_both_20 : decode cX9_both 20 = .ok (.invokevirtual 233, 3) := by decide +kernel
theorem dX9_both_23 : decode cX9_both 23 = .ok (.aload_n 0, 1) := by decide +kernel
theorem dX9_both_24 : decode cX9_both 24 = .ok (.iload_n 1, 1) := by decide +kernel
theorem dX9_both_25 : decode cX9_both 25 = .ok (.invokevirtual 240, 3) := by decide +kernel
theorem dX9_both_28 : decode cX9_both 28 = .ok (.ifCond .ne 5, 3) := by decide +kernel
theorem dX9_both_31 : decode cX9_both 31 = .ok (.iconst 0, 1) := by decide +kernel
theorem dX9_both_32 : decode cX9_both 32 = .ok (.ireturn, 1) := by decide +kernel
theorem dX9_both_33 : decode cX9_both 33 = .ok (.aload_n 0, 1) := by decide +kernel
theorem dX9_both_34 : decode cX9_both 34 = .ok (.iconst 2, 1) := by decide +kernel
theorem dX9_both_35 : decode cX9_both 35 = .ok (.bipush 38, 2) := by decide +kernel
theorem dX9_both_37 : decode cX9_both 37 = .ok (.invokevirtual 236, 3) := by decide +kernel
theorem dX9_both_40 : decode cX9_both 40 = .ok (.goto (-30), 3) := by decide +kernel
theorem dX9_both_43 : decode cX9_both 43 = .ok (.iconst 1, 1) := by decide +kernel
theorem dX9_both_44 : decode cX9_both 44 = .ok (.ireturn, 1) := by decide +kernel
theorem dX9_test_0 : decode cX9_test 0 = .ok (.aload_n 0, 1) := by decide +kernel
theorem dX9_test_1 : decode cX9_test 1 = .ok (.iload_n 1, 1) := by decide +kernel
theorem dX9_test_2 : decode cX9_test 2 = .ok (.invokevirtual 243, 3) := by decide +kernel
theorem dX9_test_5 : decode cX9_test 5 = .ok (.ifCond .ne 5, 3) := by decide +kernel
theorem dX9_test_8 : decode cX9_test 8 = .ok (.iconst 0, 1) := by decide +kernel
theorem dX9_test_9 : decode cX9_test 9 = .ok (.ireturn, 1) := by decide +kernel
theorem dX9_test_10 : decode cX9_test 10 = .ok (.aload_n 0, 1) := by decide +kernel
theorem dX9_test_11 : decode cX9_test 11 = .ok (.bipush 60, 2) := by decide +kernel
theorem dX9_test_13 : decode cX9_test 13 = .ok (.invokevirtual 230, 3) := by decide +kernel
theorem dX9_test_16 : decode cX9_test 16 = .ok (.ifCond .ne 21, 3) := by decide +kernel
theorem dX9_test_19 : decode cX9_test 19 = .ok (.aload_n 0, 1) := by decide +kernel
theorem dX9_test_20 : decode cX9_test 20 = .ok (.bipush 61, 2) := by decide +kernel
theorem dX9_test_22 : decode cX9_test 22 = .ok (.invokevirtual 230, 3) := by decide +kernel
theorem dX9_test_25 : decode cX9_test 25 = .ok (.ifCond .ne 12, 3) := by decide +kernel
theorem dX9_test_28 : decode cX9_test 28 = .ok (.aload_n 0, 1) := by decide +kernel
theorem dX9_test_29 : decode cX9_test 29 = .ok (.bipush 62, 2) := by decide +kernel
theorem dX9_test_31 : decode cX9_test 31 = .ok (.invokevirtual 230, 3) := by decide +kernel
theorem dX9_test_34 : decode cX9_test 34 = .ok (.ifCond .eq 28, 3) := by decide +kernel
theorem dX9_test_37 : decode cX9_test 37 = .ok (.aload_n 0, 1) := by decide +kernel
theorem dX9_test_38 : decode cX9_test 38 = .ok (.getfield 208, 3) := by decide +kernel
theorem dX9_test_41 : decode cX9_test 41 = .ok (.istore_n 2, 1) := by decide +kernel
theorem dX9_test_42 : decode cX9_test 42 = .ok (.aload_n 0, 1) := by decide +kernel
theorem dX9_test_43 : decode cX9_test 43 = .ok (.invokevirtual 233, 3) := by decide +kernel
theorem dX9_test_46 : decode cX9_test 46 = .ok (.aload_n 0, 1) := by decide +kernel
theorem dX9_test_47 : decode cX9_test 47 = .ok (.iload_n 1, 1) := by decide +kernel
theorem dX9_test_48 : decode cX9_test 48 = .ok (.invokevirtual 243, 3) := by decide +kernel
theorem dX9_test_51 : decode cX9_test 51 = .ok (.ifCond .ne 5, 3) := by decide +kernel
theorem dX9_test_54 : decode cX9_test 54 = .ok (.iconst 0, 1) := by decide +kernel
theorem dX9_test_55 : decode cX9_test 55 = .ok (.ireturn, 1) := by decide +kernel
theorem dX9_test_56 : decode cX9_test 56 = .ok (.aload_n 0, 1) := by decide +kernel
theorem dX9_test_57 : decode cX9_test 57 = .ok (.iconst 2, 1) := by decide +kernel
theorem dX9_test_58 : decode cX9_test 58 = .ok (.iload_n 2, 1) := by decide +kernel
theorem dX9_test_59 : decode cX9_test 59 = .ok (.invokevirtual 236, 3) := by decide +kernel
theorem dX9_test_62 : decode cX9_test 62 = .ok (.iconst 1, 1) := by decide +kernel
theorem dX9_test_63 : decode cX9_test 63 = .ok (.ireturn, 1) := by decide +kernel
theorem dX9_sum_0 : decode cX9_sum 0 = .ok (.aload_n 0, 1) := by decide +kernel
theorem dX9_sum_1 : decode cX9_sum 1 = .ok (.iload_n 1, 1) := by decide +kernel
theorem dX9_sum_2 : decode cX9_sum 2 = .ok (.invokevirtual 246, 3) := by decide +kernel
theorem dX9_sum_5 : decode cX9_sum 5 = .ok (.ifCond .ne 5, 3) := by decide +kernel
theorem dX9_sum_8 : decode cX9_sum 8 = .ok (.iconst 0, 1) := by decide +kernel
theorem dX9_sum_9 : decode cX9_sum 9 = .ok (.ireturn, 1) := by decide +kernel
theorem dX9_sum_10 : decode cX9_sum 10 = .ok (.aload_n 0, 1) := by decide +kernel
theorem dX9_sum_11 : decode cX9_sum 11 = .ok (.bipush 43, 2) := by decide +kernel
theorem dX9_sum_13 : decode cX9_sum 13 = .ok (.invokevirtual 230, 3) := by decide +kernel
theorem dX9_sum_16 : decode cX9_sum 16 = .ok (.ifCond .ne 12, 3) := by decide +kernel
theorem dX9_sum_19 : decode cX9_sum 19 = .ok (.aload_n 0, 1) := by decide +kernel
theorem dX9_sum_20 : decode cX9_sum 20 = .ok (.bipush 45, 2) := by decide +kernel
theorem dX9_sum_22 : decode cX9_sum 22 = .ok (.invokevirtual 230, 3) := by decide +kernel
theorem dX9_sum_25 : decode cX9_sum 25 = .ok (.ifCond .eq 31, 3) := by decide +kernel
theorem dX9_sum_28 : decode cX9_sum 28 = .ok (.aload_n 0, 1) := by decide +kernel
theorem dX9_sum_29 : decode cX9_sum 29 = .ok (.getfield 208, 3) := by decide +kernel
theorem dX9_sum_32 : decode cX9_sum 32 = .ok (.istore_n 2, 1) := by decide +kernel
theorem dX9_sum_33 : decode cX9_sum 33 = .ok (.aload_n 0, 1) := by decide +kernel
theorem dX9_sum_34 : decode cX9_sum 34 = .ok (.invokevirtual 233, 3) := by decide +kernel
theorem dX9_sum_37 : decode cX9_sum 37 = .ok (.aload_n 0, 1) := by decide +kernel
theorem dX9_sum_38 : decode cX9_sum 38 = .ok (.iload_n 1, 1) := by decide +kernel
theorem dX9_sum_39 : decode cX9_sum 39 = .ok (.invokevirtual 246, 3) := by decide +kernel
theorem dX9_sum_42 : decode cX9_sum 42 = .ok (.ifCond .ne 5, 3) := by decide +kernel
theorem dX9_sum_45 : decode cX9_sum 45 = .ok (.iconst 0, 1) := by decide +kernel
theorem dX9_sum_46 : decode cX9_sum 46 = .ok (.ireturn, 1) := by decide +kernel
theorem dX9_sum_47 : decode cX9_sum 47 = .ok (.aload_n 0, 1) := by decide +kernel
theorem dX9_sum_48 : decode cX9_sum 48 = .ok (.iconst 2, 1) := by decide +kernel
theorem dX9_sum_49 : decode cX9_sum 49 = .ok (.iload_n 2, 1) := by decide +kernel
theorem dX9_sum_50 : decode cX9_sum 50 = .ok (.invokevirtual 236, 3) := by decide +kernel
theorem dX9_sum_53 : decode cX9_sum 53 = .ok (.goto (-43), 3) := by decide +kernel
theorem dX9_sum_56 : decode cX9_sum 56 = .ok (.iconst 1, 1) := by decide +kernel
theorem dX9_sum_57 : decode cX9_sum 57 = .ok (.ireturn, 1) := by decide +kernel
theorem dX9_term_0 : decode cX9_term 0 = .ok (.aload_n 0, 1) := by decide +kernel
theorem dX9_term_1 : decode cX9_term 1 = .ok (.iload_n 1, 1) := by decide +kernel
theorem dX9_term_2 : decode cX9_term 2 = .ok (.invokevirtual 249, 3) := by decide +kernel
theorem dX9_term_5 : decode cX9_term 5 = .ok (.ifCond .ne 5, 3) := by decide +kernel
theorem dX9_term_8 : decode cX9_term 8 = .ok (.iconst 0, 1) := by decide +kernel
theorem dX9_term_9 : decode cX9_term 9 = .ok (.ireturn, 1) := by decide +kernel
theorem dX9_term_10 : decode cX9_term 10 = .ok (.aload_n 0, 1) := by decide +kernel
theorem dX9_term_11 : decode cX9_term 11 = .ok (.bipush 42, 2) := by decide +kernel
theorem dX9_term_13 : decode cX9_term 13 = .ok (.invokevirtual 230, 3) := by decide +kernel
theorem dX9_term_16 : decode cX9_term 16 = .ok (.ifCond .ne 12, 3) := by decide +kernel
theorem dX9_term_19 : decode cX9_term 19 = .ok (.aload_n 0, 1) := by decide +kernel
theorem dX9_term_20 : decode cX9_term 20 = .ok (.bipush 47, 2) := by decide +kernel
theorem dX9_term_22 : decode cX9_term 22 = .ok (.invokevirtual 230, 3) := by decide +kernel
theorem dX9_term_25 : decode cX9_term 25 = .ok (.ifCond .eq 31, 3) := by decide +kernel
theorem dX9_term_28 : decode cX9_term 28 = .ok (.aload_n 0, 1) := by decide +kernel
theorem dX9_term_29 : decode cX9_term 29 = .ok (.getfield 208, 3) := by decide +kernel
theorem dX9_term_32 : decode cX9_term 32 = .ok (.istore_n 2, 1) := by decide +kernel
theorem dX9_term_33 : decode cX9_term 33 = .ok (.aload_n 0, 1) := by decide +kernel
theorem dX9_term_34 : decode cX9_term 34 = .ok (.invokevirtual 233, 3) := by decide +kernel
theorem dX9_term_37 : decode cX9_term 37 = .ok (.aload_n 0, 1) := by decide +kernel
theorem dX9_term_38 : decode cX9_term 38 = .ok (.iload_n 1, 1) := by decide +kernel
theorem dX9_term_39 : decode cX9_term 39 = .ok (.invokevirtual 249, 3) := by decide +kernel
theorem dX9_term_42 : decode cX9_term 42 = .ok (.ifCond .ne 5, 3) := by decide +kernel
theorem dX9_term_45 : decode cX9_term 45 = .ok (.iconst 0, 1) := by decide +kernel
theorem dX9_term_46 : decode cX9_term 46 = .ok (.ireturn, 1) := by decide +kernel
theorem dX9_term_47 : decode cX9_term 47 = .ok (.aload_n 0, 1) := by decide +kernel
theorem dX9_term_48 : decode cX9_term 48 = .ok (.iconst 2, 1) := by decide +kernel
theorem dX9_term_49 : decode cX9_term 49 = .ok (.iload_n 2, 1) := by decide +kernel
theorem dX9_term_50 : decode cX9_term 50 = .ok (.invokevirtual 236, 3) := by decide +kernel
theorem dX9_term_53 : decode cX9_term 53 = .ok (.goto (-43), 3) := by decide +kernel
theorem dX9_term_56 : decode cX9_term 56 = .ok (.iconst 1, 1) := by decide +kernel
theorem dX9_term_57 : decode cX9_term 57 = .ok (.ireturn, 1) := by decide +kernel
theorem dX9_part0_0 : decode cX9_part0 0 = .ok (.aload_n 0, 1) := by decide +kernel
theorem dX9_part0_1 : decode cX9_part0 1 = .ok (.getfield 199, 3) := by decide +kernel
theorem dX9_part0_4 : decode cX9_part0 4 = .ok (.iconst 2, 1) := by decide +kernel
theorem dX9_part0_5 : decode cX9_part0 5 = .ok (.if_icmp .ne 28, 3) := by decide +kernel
theorem dX9_part0_8 : decode cX9_part0 8 = .ok (.aload_n 0, 1) := by decide +kernel
theorem dX9_part0_9 : decode cX9_part0 9 = .ok (.iconst 0, 1) := by decide +kernel
theorem dX9_part0_10 : decode cX9_part0 10 = .ok (.aload_n 0, 1) := by decide +kernel
theorem dX9_part0_11 : decode cX9_part0 11 = .ok (.getfield 214, 3) := by decide +kernel
theorem dX9_part0_14 : decode cX9_part0 14 = .ok (.invokevirtual 236, 3) := by decide +kernel
theorem dX9_part0_17 : decode cX9_part0 17 = .ok (.aload_n 0, 1) := by decide +kernel
theorem dX9_part0_18 : decode cX9_part0 18 = .ok (.dup, 1) := by decide +kernel
theorem dX9_part0_19 : decode cX9_part0 19 = .ok (.getfield 252, 3) := by decide +kernel
theorem dX9_part0_22 : decode cX9_part0 22 = .ok (.iconst 1, 1) := by decide +kernel
theorem dX9_part0_23 : decode cX9_part0 23 = .ok (.iadd, 1) := by decide +kernel
theorem dX9_part0_24 : decode cX9_part0 24 = .ok (.putfield 252, 3) := by decide +kernel
theorem dX9_part0_27 : decode cX9_part0 27 = .ok (.aload_n 0, 1) := by decide +kernel
theorem dX9_part0_28 : decode cX9_part0 28 = .ok (.invokevirtual 233, 3) := by decide +kernel
theorem dX9_part0_31 : decode cX9_part0 31 = .ok (.iconst 1, 1) := by decide +kernel
theorem dX9_part0_32 : decode cX9_part0 32 = .ok (.ireturn, 1) := by decide +kernel
theorem dX9_part0_33 : decode cX9_part0 33 = .ok (.aload_n 0, 1) := by decide +kernel
theorem dX9_part0_34 : decode cX9_part0 34 = .ok (.getfield 199, 3) := by decide +kernel
theorem dX9_part0_37 : decode cX9_part0 37 = .ok (.iconst 1, 1) := by decide +kernel
theorem dX9_part0_38 : decode cX9_part0 38 = .ok (.if_icmp .ne 46, 3) := by decide +kernel
theorem dX9_part0_41 : decode cX9_part0 41 = .ok (.aload_n 0, 1) := by decide +kernel
theorem dX9_part0_42 : decode cX9_part0 42 = .ok (.getfield 208, 3) := by decide +kernel
theorem dX9_part0_45 : decode cX9_part0 45 = .ok (.ifCond .eq 39, 3) := by decide +kernel
theorem dX9_part0_48 : decode cX9_part0 48 = .ok (.iload_n 1, 1) := by decide +kernel
theorem dX9_part0_49 : decode cX9_part0 49 = .ok (.aload_n 0, 1) := by decide +kernel
theorem dX9_part0_50 : decode cX9_part0 50 = .ok (.getfield 208, 3) := by decide +kernel
theorem dX9_part0_53 : decode cX9_part0 53 = .ok (.invokestatic 255, 3) := by decide +kernel
theorem dX9_part0_56 : decode cX9_part0 56 = .ok (.ifCond .eq 28, 3) := by decide +kernel
theorem dX9_part0_59 : decode cX9_part0 59 = .ok (.aload_n 0, 1) := by decide +kernel
theorem dX9_part0_60 : decode cX9_part0 60 = .ok (.iconst 1, 1) := by decide +kernel
theorem dX9_part0_61 : decode cX9_part0 61 = .ok (.aload_n 0, 1) := by decide +kernel
theorem dX9_part0_62 : decode cX9_part0 62 = .ok (.getfield 208, 3) := by decide +kernel
theorem dX9_part0_65 : decode cX9_part0 65 = .ok (.invokevirtual 236, 3) := by decide +kernel
theorem dX9_part0_68 : decode cX9_part0 68 = .ok (.aload_n 0, 1) := by decide +kernel
theorem dX9_part0_69 : decode cX9_part0 69 = .ok (.dup, 1) := by decide +kernel
theorem dX9_part0_70 : decode cX9_part0 70 = .ok (.getfield 252, 3) := by decide +kernel
theorem dX9_part0_73 : decode cX9_part0 73 = .ok (.iconst 1, 1) := by decide +kernel
theorem dX9_part0_74 : decode cX9_part0 74 = .ok (.iadd, 1) := by decide +kernel
theorem dX9_part0_75 : decode cX9_part0 75 = .ok (.putfield 252, 3) := by decide +kernel
theorem dX9_part0_78 : decode cX9_part0 78 = .ok (.aload_n 0, 1) := by decide +kernel
theorem dX9_part0_79 : decode cX9_part0 79 = .ok (.invokevirtual 233, 3) := by decide +kernel
theorem dX9_part0_82 : decode cX9_part0 82 = .ok (.iconst 1, 1) := by decide +kernel
theorem dX9_part0_83 : decode cX9_part0 83 = .ok (.ireturn, 1) := by decide +kernel
theorem dX9_part0_84 : decode cX9_part0 84 = .ok (.aload_n 0, 1) := by decide +kernel
theorem dX9_part0_85 : decode cX9_part0 85 = .ok (.bipush 33, 2) := by decide +kernel
theorem dX9_part0_87 : decode cX9_part0 87 = .ok (.invokevirtual 230, 3) := by decide +kernel
theorem dX9_part0_90 : decode cX9_part0 90 = .ok (.ifCond .eq 55, 3) := by decide +kernel
theorem dX9_part0_93 : decode cX9_part0 93 = .ok (.aload_n 0, 1) := by decide +kernel
theorem dX9_part0_94 : decode cX9_part0 94 = .ok (.getfield 258, 3) := by decide +kernel
theorem dX9_part0_97 : decode cX9_part0 97 = .ok (.bipush 8, 2) := by decide +kernel
theorem dX9_part0_99 : decode cX9_part0 99 = .ok (.if_icmp .ge 46, 3) := by decide +kernel
theorem dX9_part0_102 : decode cX9_part0 102 = .ok (.aload_n 0, 1) := by decide +kernel
theorem dX9_part0_103 : decode cX9_part0 103 = .ok (.dup, 1) := by decide +kernel
theorem dX9_part0_104 : decode cX9_part0 104 = .ok (.getfield 258, 3) := by decide +kernel
theorem dX9_part0_107 : decode cX9_part0 107 = .ok (.iconst 1, 1) := by decide +kernel
theorem dX9_part0_108 : decode cX9_part0 108 = .ok (.iadd, 1) := by decide +kernel
theorem dX9_part0_109 : decode cX9_part0 109 = .ok (.putfield 258, 3) := by decide +kernel
theorem dX9_part0_112 : decode cX9_part0 112 = .ok (.aload_n 0, 1) := by decide +kernel
theorem dX9_part0_113 : decode cX9_part0 113 = .ok (.invokevirtual 233, 3) := by decide +kernel
theorem dX9_part0_116 : decode cX9_part0 116 = .ok (.aload_n 0, 1) := by decide +kernel
theorem dX9_part0_117 : decode cX9_part0 117 = .ok (.iload_n 1, 1) := by decide +kernel
theorem dX9_part0_118 : decode cX9_part0 118 = .ok (.invokevirtual 249, 3) := by decide +kernel
theorem dX9_part0_121 : decode cX9_part0 121 = .ok (.ifCond .ne 5, 3) := by decide +kernel
theorem dX9_part0_124 : decode cX9_part0 124 = .ok (.iconst 0, 1) := by decide +kernel
theorem dX9_part0_125 : decode cX9_part0 125 = .ok (.ireturn, 1) := by decide +kernel
theorem dX9_part0_126 : decode cX9_part0 126 = .ok (.aload_n 0, 1) := by decide +kernel
theorem dX9_part0_127 : decode cX9_part0 127 = .ok (.dup, 1) := by decide +kernel
theorem dX9_part0_128 : decode cX9_part0 128 = .ok (.getfield 258, 3) := by decide +kernel
theorem dX9_part0_131 : decode cX9_part0 131 = .ok (.iconst 1, 1) := by decide +kernel
theorem dX9_part0_132 : decode cX9_part0 132 = .ok (.isub, 1) := by decide +kernel
theorem dX9_part0_133 : decode cX9_part0 133 = .ok (.putfield 258, 3) := by decide +kernel
theorem dX9_part0_136 : decode cX9_part0 136 = .ok (.aload_n 0, 1) := by decide +kernel
theorem dX9_part0_137 : decode cX9_part0 137 = .ok (.iconst 2, 1) := by decide +kernel
theorem dX9_part0_138 : decode cX9_part0 138 = .ok (.bipush 33, 2) := by decide +kernel
theorem dX9_part0_140 : decode cX9_part0 140 = .ok (.invokevirtual 236, 3) := by decide +kernel
theorem dX9_part0_143 : decode cX9_part0 143 = .ok (.iconst 1, 1) := by decide +kernel
theorem dX9_part0_144 : decode cX9_part0 144 = .ok (.ireturn, 1) := by decide +kernel
theorem dX9_part0_145 : decode cX9_part0 145 = .ok (.aload_n 0, 1) := by decide +kernel
theorem dX9_part0_146 : decode cX9_part0 146 = .ok (.bipush 40, 2) := by decide +kernel
theorem dX9_part0_148 : decode cX9_part0 148 = .ok (.invokevirtual 230, 3) := by decide +kernel
theorem dX9_part0_151 : decode cX9_part0 151 = .ok (.ifCond .eq 12, 3) := by decide +kernel
theorem dX9_part0_154 : decode cX9_part0 154 = .ok (.aload_n 0, 1) := by decide +kernel
theorem dX9_part0_155 : decode cX9_part0 155 = .ok (.getfield 261, 3) := by decide +kernel
theorem dX9_part0_158 : decode cX9_part0 158 = .ok (.bipush 8, 2) := by decide +kernel
theorem dX9_part0_160 : decode cX9_part0 160 = .ok (.if_icmp .ne 5, 3) := by decide +kernel
theorem dX9_part0_163 : decode cX9_part0 163 = .ok (.iconst 0, 1) := by decide +kernel
theorem dX9_part0_164 : decode cX9_part0 164 = .ok (.ireturn, 1) := by decide +kernel
theorem dX9_part0_165 : decode cX9_part0 165 = .ok (.aload_n 0, 1) := by decide +kernel
theorem dX9_part0_166 : decode cX9_part0 166 = .ok (.dup, 1) := by decide +kernel
theorem dX9_part0_167 : decode cX9_part0 167 = .ok (.getfield 261, 3) := by decide +kernel
theorem dX9_part0_170 : decode cX9_part0 170 = .ok (.iconst 1, 1) := by decide +kernel
theorem dX9_part0_171 : decode cX9_part0 171 = .ok (.iadd, 1) := by decide +kernel
theorem dX9_part0_172 : decode cX9_part0 172 = .ok (.putfield 261, 3) := by decide +kernel
theorem dX9_part0_175 : decode cX9_part0 175 = .ok (.aload_n 0, 1) := by decide +kernel
theorem dX9_part0_176 : decode cX9_part0 176 = .ok (.invokevirtual 233, 3) := by decide +kernel
theorem dX9_part0_179 : decode cX9_part0 179 = .ok (.aload_n 0, 1) := by decide +kernel
theorem dX9_part0_180 : decode cX9_part0 180 = .ok (.iload_n 1, 1) := by decide +kernel
theorem dX9_part0_181 : decode cX9_part0 181 = .ok (.invokevirtual 264, 3) := by decide +kernel
theorem dX9_part0_184 : decode cX9_part0 184 = .ok (.ifCond .eq 12, 3) := by decide +kernel
theorem dX9_part0_187 : decode cX9_part0 187 = .ok (.aload_n 0, 1) := by decide +kernel
theorem dX9_part0_188 : decode cX9_part0 188 = .ok (.bipush 41, 2) := by decide +kernel
theorem dX9_part0_190 : decode cX9_part0 190 = .ok (.invokevirtual 230, 3) := by decide +kernel
theorem dX9_part0_193 : decode cX9_part0 193 = .ok (.ifCond .ne 5, 3) := by decide +kernel
theorem dX9_part0_196 : decode cX9_part0 196 = .ok (.iconst 0, 1) := by decide +kernel
theorem dX9_part0_197 : decode cX9_part0 197 = .ok (.ireturn, 1) := by decide +kernel
theorem dX9_part0_198 : decode cX9_part0 198 = .ok (.aload_n 0, 1) := by decide +kernel
theorem dX9_part0_199 : decode cX9_part0 199 = .ok (.dup, 1) := by decide +kernel
theorem dX9_part0_200 : decode cX9_part0 200 = .ok (.getfield 261, 3) := by decide +kernel
theorem dX9_part0_203 : decode cX9_part0 203 = .ok (.iconst 1, 1) := by decide +kernel
theorem dX9_part0_204 : decode cX9_part0 204 = .ok (.isub, 1) := by decide +kernel
theorem dX9_part0_205 : decode cX9_part0 205 = .ok (.putfield 261, 3) := by decide +kernel
theorem dX9_part0_208 : decode cX9_part0 208 = .ok (.aload_n 0, 1) := by decide +kernel
theorem dX9_part0_209 : decode cX9_part0 209 = .ok (.invokevirtual 233, 3) := by decide +kernel
theorem dX9_part0_212 : decode cX9_part0 212 = .ok (.iconst 1, 1) := by decide +kernel
theorem dX9_part0_213 : decode cX9_part0 213 = .ok (.ireturn, 1) := by decide +kernel
theorem dX9_parse_0 : decode cX9_parse 0 = .ok (.aload_n 0, 1) := by decide +kernel
theorem dX9_parse_1 : decode cX9_parse 1 = .ok (.iconst 0, 1) := by decide +kernel
theorem dX9_parse_2 : decode cX9_parse 2 = .ok (.putfield 196, 3) := by decide +kernel
theorem dX9_parse_5 : decode cX9_parse 5 = .ok (.aload_n 0, 1) := by decide +kernel
theorem dX9_parse_6 : decode cX9_parse 6 = .ok (.iconst 3, 1) := by decide +kernel
theorem dX9_parse_7 : decode cX9_parse 7 = .ok (.putfield 199, 3) := by decide +kernel
theorem dX9_parse_10 : decode cX9_parse 10 = .ok (.aload_n 0, 1) := by decide +kernel
theorem dX9_parse_11 : decode cX9_parse 11 = .ok (.iconst 0, 1) := by decide +kernel
theorem dX9_parse_12 : decode cX9_parse 12 = .ok (.putfield 261, 3) := by decide +kernel
theorem dX9_parse_15 : decode cX9_parse 15 = .ok (.aload_n 0, 1) := by decide +kernel
theorem dX9_parse_16 : decode cX9_parse 16 = .ok (.iconst 0, 1) := by decide +kernel
theorem dX9_parse_17 : decode cX9_parse 17 = .ok (.putfield 258, 3) := by decide +kernel
theorem dX9_parse_20 : decode cX9_parse 20 = .ok (.aload_n 0, 1) := by decide +kernel
theorem dX9_parse_21 : decode cX9_parse 21 = .ok (.iconst 0, 1) := by decide +kernel
theorem dX9_parse_22 : decode cX9_parse 22 = .ok (.putfield 224, 3) := by decide +kernel
theorem dX9_parse_25 : decode cX9_parse 25 = .ok (.aload_n 0, 1) := by decide +kernel
theorem dX9_parse_26 : decode cX9_parse 26 = .ok (.iconst 0, 1) := by decide +kernel
theorem dX9_parse_27 : decode cX9_parse 27 = .ok (.putfield 252, 3) := by decide +kernel
theorem dX9_parse_30 : decode cX9_parse 30 = .ok (.aload_n 0, 1) := by decide +kernel
theorem dX9_parse_31 : decode cX9_parse 31 = .ok (.aload_n 0, 1) := by decide +kernel
theorem dX9_parse_32 : decode cX9_parse 32 = .ok (.getfield 7, 3) := by decide +kernel
theorem dX9_parse_35 : decode cX9_parse 35 = .ok (.iconst 1, 1) := by decide +kernel
theorem dX9_parse_36 : decode cX9_parse 36 = .ok (.iaload, 1) := by decide +kernel
theorem dX9_parse_37 : decode cX9_parse 37 = .ok (.bipush 14, 2) := by decide +kernel
theorem dX9_parse_39 : decode cX9_parse 39 = .ok (.if_icmp .ge 18, 3) := by decide +kernel
theorem dX9_parse_42 : decode cX9_parse 42 = .ok (.aload_n 0, 1) := by decide +kernel
theorem dX9_parse_43 : decode cX9_parse 43 = .ok (.aload_n 0, 1) := by decide +kernel
theorem dX9_parse_44 : decode cX9_parse 44 = .ok (.getfield 7, 3) := by decide +kernel
theorem dX9_parse_47 : decode cX9_parse 47 = .ok (.iconst 1, 1) := by decide +kernel
theorem dX9_parse_48 : decode cX9_parse 48 = .ok (.iaload, 1) := by decide +kernel
theorem dX9_parse_49 : decode cX9_parse 49 = .ok (.invokevirtual 267, 3) := by decide +kernel
theorem dX9_parse_52 : decode cX9_parse 52 = .ok (.iconst 4, 1) := by decide +kernel
theorem dX9_parse_53 : decode cX9_parse 53 = .ok (.iadd, 1) := by decide +kernel
theorem dX9_parse_54 : decode cX9_parse 54 = .ok (.goto 6, 3) := by decide +kernel
theorem dX9_parse_57 : decode cX9_parse 57 = .ok (.sipush 2947, 3) := by decide +kernel
theorem dX9_parse_60 : decode cX9_parse 60 = .ok (.putfield 221, 3) := by decide +kernel
theorem dX9_parse_63 : decode cX9_parse 63 = .ok (.aload_n 0, 1) := by decide +kernel
theorem dX9_parse_64 : decode cX9_parse 64 = .ok (.invokevirtual 233, 3) := by decide +kernel
theorem dX9_parse_67 : decode cX9_parse 67 = .ok (.aload_n 0, 1) := by decide +kernel
theorem dX9_parse_68 : decode cX9_parse 68 = .ok (.invokevirtual 270, 3) := by decide +kernel
theorem dX9_parse_71 : decode cX9_parse 71 = .ok (.istore_n 1, 1) := by decide +kernel
theorem dX9_parse_72 : decode cX9_parse 72 = .ok (.iload_n 1, 1) := by decide +kernel
theorem dX9_parse_73 : decode cX9_parse 73 = .ok (.ifCond .lt 7, 3) := by decide +kernel
theorem dX9_parse_76 : decode cX9_parse 76 = .ok (.iconst 1, 1) := by decide +kernel
theorem dX9_parse_77 : decode cX9_parse 77 = .ok (.goto 4, 3) := by decide +kernel
theorem dX9_parse_80 : decode cX9_parse 80 = .ok (.iconst 0, 1) := by decide +kernel
theorem dX9_parse_81 : decode cX9_parse 81 = .ok (.istore_n 2, 1) := by decide +kernel
theorem dX9_parse_82 : decode cX9_parse 82 = .ok (.iload_n 2, 1) := by decide +kernel
theorem dX9_parse_83 : decode cX9_parse 83 = .ok (.ifCond .eq 28, 3) := by decide +kernel
theorem dX9_parse_86 : decode cX9_parse 86 = .ok (.aload_n 0, 1) := by decide +kernel
theorem dX9_parse_87 : decode cX9_parse 87 = .ok (.invokevirtual 233, 3) := by decide +kernel
theorem dX9_parse_90 : decode cX9_parse 90 = .ok (.aload_n 0, 1) := by decide +kernel
theorem dX9_parse_91 : decode cX9_parse 91 = .ok (.iload_n 1, 1) := by decide +kernel
theorem dX9_parse_92 : decode cX9_parse 92 = .ok (.invokevirtual 264, 3) := by decide +kernel
theorem dX9_parse_95 : decode cX9_parse 95 = .ok (.ifCond .eq 14, 3) := by decide +kernel
theorem dX9_parse_98 : decode cX9_parse 98 = .ok (.aload_n 0, 1) := by decide +kernel
theorem dX9_parse_99 : decode cX9_parse 99 = .ok (.getfield 199, 3) := by decide +kernel
theorem dX9_parse_102 : decode cX9_parse 102 = .ok (.ifCond .ne 7, 3) := by decide +kernel
theorem dX9_parse_105 : decode cX9_parse 105 = .ok (.iconst 1, 1) := by decide +kernel
theorem dX9_parse_106 : decode cX9_parse 106 = .ok (.goto 4, 3) := by decide +kernel
theorem dX9_parse_109 : decode cX9_parse 109 = .ok (.iconst 0, 1) := by decide +kernel
theorem dX9_parse_110 : decode cX9_parse 110 = .ok (.istore_n 2, 1) := by decide +kernel
theorem dX9_parse_111 : decode cX9_parse 111 = .ok (.aload_n 0, 1) := by decide +kernel
theorem dX9_parse_112 : decode cX9_parse 112 = .ok (.iconst 0, 1) := by decide +kernel
theorem dX9_parse_113 : decode cX9_parse 113 = .ok (.putfield 184, 3) := by decide +kernel
theorem dX9_parse_116 : decode cX9_parse 116 = .ok (.iload_n 2, 1) := by decide +kernel
theorem dX9_parse_117 : decode cX9_parse 117 = .ok (.ifCond .eq 7, 3) := by decide +kernel
theorem dX9_parse_120 : decode cX9_parse 120 = .ok (.iload_n 1, 1) := by decide +kernel
theorem dX9_parse_121 : decode cX9_parse 121 = .ok (.goto 4, 3) := by decide +kernel
theorem dX9_parse_124 : decode cX9_parse 124 = .ok (.iconst (-1), 1) := by decide +kernel
theorem dX9_parse_125 : decode cX9_parse 125 = .ok (.ireturn, 1) := by decide +kernel
theorem dX9_text_0 : decode cX9_text 0 = .ok (.aload_n 0, 1) := by decide +kernel
theorem dX9_text_1 : decode cX9_text 1 = .ok (.invokevirtual 273, 3) := by decide +kernel
theorem dX9_text_4 : decode cX9_text 4 = .ok (.istore_n 1, 1) := by decide +kernel
theorem dX9_text_5 : decode cX9_text 5 = .ok (.iload_n 1, 1) := by decide +kernel
theorem dX9_text_6 : decode cX9_text 6 = .ok (.ifCond .ge 11, 3) := by decide +kernel
theorem dX9_text_9 : decode cX9_text 9 = .ok (.bipush (-100), 2) := by decide +kernel
theorem dX9_text_11 : decode cX9_text 11 = .ok (.aload_n 0, 1) := by decide +kernel
theorem dX9_text_12 : decode cX9_text 12 = .ok (.getfield 202, 3) := by decide +kernel
theorem dX9_text_15 : decode cX9_text 15 = .ok (.isub, 1) := by decide +kernel
theorem dX9_text_16 : decode cX9_text 16 = .ok (.ireturn, 1) := by decide +kernel
theorem dX9_text_17 : decode cX9_text 17 = .ok (.aload_n 0, 1) := by decide +kernel
theorem dX9_text_18 : decode cX9_text 18 = .ok (.getfield 7, 3) := by decide +kernel
theorem dX9_text_21 : decode cX9_text 21 = .ok (.iconst 1, 1) := by decide +kernel
theorem dX9_text_22 : decode cX9_text 22 = .ok (.iaload, 1) := by decide +kernel
theorem dX9_text_23 : decode cX9_text 23 = .ok (.bipush 14, 2) := by decide +kernel
theorem dX9_text_25 : decode cX9_text 25 = .ok (.if_icmp .ne 6, 3) := by decide +kernel
theorem dX9_text_28 : decode cX9_text 28 = .ok (.ldc 164, 2) := by decide +kernel
theorem dX9_text_30 : decode cX9_text 30 = .ok (.ireturn, 1) := by decide +kernel
theorem dX9_text_31 : decode cX9_text 31 = .ok (.aload_n 0, 1) := by decide +kernel
theorem dX9_text_32 : decode cX9_text 32 = .ok (.aload_n 0, 1) := by decide +kernel
theorem dX9_text_33 : decode cX9_text 33 = .ok (.getfield 7, 3) := by decide +kernel
theorem dX9_text_36 : decode cX9_text 36 = .ok (.iconst 1, 1) := by decide +kernel
theorem dX9_text_37 : decode cX9_text 37 = .ok (.iaload, 1) := by decide +kernel
theorem dX9_text_38 : decode cX9_text 38 = .ok (.invokevirtual 267, 3) := by decide +kernel
theorem dX9_text_41 : decode cX9_text 41 = .ok (.istore_n 2, 1) := by decide +kernel
theorem dX9_text_42 : decode cX9_text 42 = .ok (.aload_n 0, 1) := by decide +kernel
theorem dX9_text_43 : decode cX9_text 43 = .ok (.getfield 7, 3) := by decide +kernel
theorem dX9_text_46 : decode cX9_text 46 = .ok (.iload_n 2, 1) := by decide +kernel
theorem dX9_text_47 : decode cX9_text 47 = .ok (.iconst 0, 1) := by decide +kernel
theorem dX9_text_48 : decode cX9_text 48 = .ok (.iadd, 1) := by decide +kernel
theorem dX9_text_49 : decode cX9_text 49 = .ok (.iload_n 1, 1) := by decide +kernel
theorem dX9_text_50 : decode cX9_text 50 = .ok (.iastore, 1) := by decide +kernel
theorem dX9_text_51 : decode cX9_text 51 = .ok (.aload_n 0, 1) := by decide +kernel
theorem dX9_text_52 : decode cX9_text 52 = .ok (.getfield 7, 3) := by decide +kernel
theorem dX9_text_55 : decode cX9_text 55 = .ok (.iload_n 2, 1) := by decide +kernel
theorem dX9_text_56 : decode cX9_text 56 = .ok (.iconst 1, 1) := by decide +kernel
theorem dX9_text_57 : decode cX9_text 57 = .ok (.iadd, 1) := by decide +kernel
theorem dX9_text_58 : decode cX9_text 58 = .ok (.aload_n 0, 1) := by decide +kernel
theorem dX9_text_59 : decode cX9_text 59 = .ok (.getfield 252, 3) := by decide +kernel
theorem dX9_text_62 : decode cX9_text 62 = .ok (.iastore, 1) := by decide +kernel
theorem dX9_text_63 : decode cX9_text 63 = .ok (.aload_n 0, 1) := by decide +kernel
theorem dX9_text_64 : decode cX9_text 64 = .ok (.getfield 7, 3) := by decide +kernel
theorem dX9_text_67 : decode cX9_text 67 = .ok (.iload_n 2, 1) := by decide +kernel
theorem dX9_text_68 : decode cX9_text 68 = .ok (.iconst 2, 1) := by decide +kernel
theorem dX9_text_69 : decode cX9_text 69 = .ok (.iadd, 1) := by decide +kernel
theorem dX9_text_70 : decode cX9_text 70 = .ok (.aload_n 0, 1) := by decide +kernel
theorem dX9_text_71 : decode cX9_text 71 = .ok (.getfield 224, 3) := by decide +kernel
theorem dX9_text_74 : decode cX9_text 74 = .ok (.iastore, 1) := by decide +kernel
theorem dX9_text_75 : decode cX9_text 75 = .ok (.aload_n 0, 1) := by decide +kernel
theorem dX9_text_76 : decode cX9_text 76 = .ok (.getfield 7, 3) := by decide +kernel
theorem dX9_text_79 : decode cX9_text 79 = .ok (.iconst 1, 1) := by decide +kernel
theorem dX9_text_80 : decode cX9_text 80 = .ok (.dup2, 1) := by decide +kernel
theorem dX9_text_81 : decode cX9_text 81 = .ok (.iaload, 1) := by decide +kernel
theorem dX9_text_82 : decode cX9_text 82 = .ok (.iconst 1, 1) := by decide +kernel
theorem dX9_text_83 : decode cX9_text 83 = .ok (.iadd, 1) := by decide +kernel
theorem dX9_text_84 : decode cX9_text 84 = .ok (.iastore, 1) := by decide +kernel
theorem dX9_text_85 : decode cX9_text 85 = .ok (.aload_n 0, 1) := by decide +kernel
theorem dX9_text_86 : decode cX9_text 86 = .ok (.getfield 7, 3) := by decide +kernel
theorem dX9_text_89 : decode cX9_text 89 = .ok (.iconst 1, 1) := by decide +kernel
theorem dX9_text_90 : decode cX9_text 90 = .ok (.iaload, 1) := by decide +kernel
theorem dX9_text_91 : decode cX9_text 91 = .ok (.iconst 1, 1) := by decide +kernel
theorem dX9_text_92 : decode cX9_text 92 = .ok (.isub, 1) := by decide +kernel
theorem dX9_text_93 : decode cX9_text 93 = .ok (.ireturn, 1) := by decide +kernel
theorem dX9_textTold_0 : decode cX9_textTold 0 = .ok (.aload_n 0, 1) := by decide +kernel
theorem dX9_textTold_1 : decode cX9_textTold 1 = .ok (.iload_n 1, 1) := by decide +kernel
theorem dX9_textTold_2 : decode cX9_textTold 2 = .ok (.invokevirtual 276, 3) := by decide +kernel
theorem dX9_textTold_5 : decode cX9_textTold 5 = .ok (.ifCond .eq 13, 3) := by decide +kernel
theorem dX9_textTold_8 : decode cX9_textTold 8 = .ok (.iload_n 2, 1) := by decide +kernel
theorem dX9_textTold_9 : decode cX9_textTold 9 = .ok (.i2l, 1) := by decide +kernel
theorem dX9_textTold_10 : decode cX9_textTold 10 = .ok (.lconst 0, 1) := by decide +kernel
theorem dX9_textTold_11 : decode cX9_textTold 11 = .ok (.lconst 1, 1) := by decide +kernel
theorem dX9_textTold_12 : decode cX9_textTold 12 = .ok (.invokestatic 65, 3) := by decide +kernel
theorem dX9_textTold_15 : decode cX9_textTold 15 = .ok (.ifCond .ne 6, 3) := by decide +kernel
theorem dX9_textTold_18 : decode cX9_textTold 18 = .ok (.ldc 98, 2) := by decide +kernel
theorem dX9_textTold_20 : decode cX9_textTold 20 = .ok (.ireturn, 1) := by decide +kernel
theorem dX9_textTold_21 : decode cX9_textTold 21 = .ok (.aload_n 0, 1) := by decide +kernel
theorem dX9_textTold_22 : decode cX9_textTold 22 = .ok (.getfield 7, 3) := by decide +kernel
theorem dX9_textTold_25 : decode cX9_textTold 25 = .ok (.aload_n 0, 1) := by decide +kernel
theorem dX9_textTold_26 : decode cX9_textTold 26 = .ok (.iload_n 1, 1) := by decide +kernel
theorem dX9_textTold_27 : decode cX9_textTold 27 = .ok (.invokevirtual 267, 3) := by decide +kernel
theorem dX9_textTold_30 : decode cX9_textTold 30 = .ok (.iload_n 2, 1) := by decide +kernel
theorem dX9_textTold_31 : decode cX9_textTold 31 = .ok (.iadd, 1) := by decide +kernel
theorem dX9_textTold_32 : decode cX9_textTold 32 = .ok (.iaload, 1) := by decide +kernel
theorem dX9_textTold_33 : decode cX9_textTold 33 = .ok (.ireturn, 1) := by decide +kernel
theorem dX9_counts_0 : decode cX9_counts 0 = .ok (.iconst (-1), 1) := by decide +kernel
theorem dX9_counts_1 : decode cX9_counts 1 = .ok (.istore_n 2, 1) := by decide +kernel
theorem dX9_counts_2 : decode cX9_counts 2 = .ok (.iconst 0, 1) := by decide +kernel
theorem dX9_counts_3 : decode cX9_counts 3 = .ok (.istore_n 3, 1) := by decide +kernel
theorem dX9_counts_4 : decode cX9_counts 4 = .ok (.iload_n 3, 1) := by decide +kernel
theorem dX9_counts_5 : decode cX9_counts 5 = .ok (.aload_n 0, 1) := by decide +kernel
theorem dX9_counts_6 : decode cX9_counts 6 = .ok (.getfield 7, 3) := by decide +kernel
theorem dX9_counts_9 : decode cX9_counts 9 = .ok (.iconst 1, 1) := by decide +kernel
theorem dX9_counts_10 : decode cX9_counts 10 = .ok (.iaload, 1) := by decide +kernel
theorem dX9_counts_11 : decode cX9_counts 11 = .ok (.if_icmp .ge 29, 3) := by decide +kernel
theorem dX9_counts_14 : decode cX9_counts 14 = .ok (.aload_n 0, 1) := by decide +kernel
theorem dX9_counts_15 : decode cX9_counts 15 = .ok (.getfield 7, 3) := by decide +kernel
theorem dX9_counts_18 : decode cX9_counts 18 = .ok (.aload_n 0, 1) := by decide +kernel
theorem dX9_counts_19 : decode cX9_counts 19 = .ok (.iload_n 3, 1) := by decide +kernel
theorem dX9_counts_20 : decode cX9_counts 20 = .ok (.invokevirtual 267, 3) := by decide +kernel
theorem dX9_counts_23 : decode cX9_counts 23 = .ok (.iaload, 1) := by decide +kernel
theorem dX9_counts_24 : decode cX9_counts 24 = .ok (.iload_n 1, 1) := by decide +kernel
theorem dX9_counts_25 : decode cX9_counts 25 = .ok (.if_icmp .ne 7, 3) := by decide +kernel
theorem dX9_counts_28 : decode cX9_counts 28 = .ok (.iload_n 3, 1) := by decide +kernel
theorem dX9_counts_29 : decode cX9_counts 29 = .ok (.goto 4, 3) := by decide +kernel
theorem dX9_counts_32 : decode cX9_counts 32 = .ok (.iload_n 2, 1) := by decide +kernel
theorem dX9_counts_33 : decode cX9_counts 33 = .ok (.istore_n 2, 1) := by decide +kernel
theorem dX9_counts_34 : decode cX9_counts 34 = .ok (.iinc 3 1, 3) := by decide +kernel
theorem dX9_counts_37 : decode cX9_counts 37 = .ok (.goto (-33), 3) := by decide +kernel
theorem dX9_counts_40 : decode cX9_counts 40 = .ok (.iload_n 2, 1) := by decide +kernel
theorem dX9_counts_41 : decode cX9_counts 41 = .ok (.ireturn, 1) := by decide +kernel
theorem dX9_why_0 : decode cX9_why 0 = .ok (.iload_n 1, 1) := by decide +kernel
theorem dX9_why_1 : decode cX9_why 1 = .ok (.i2l, 1) := by decide +kernel
theorem dX9_why_2 : decode cX9_why 2 = .ok (.lconst 0, 1) := by decide +kernel
theorem dX9_why_3 : decode cX9_why 3 = .ok (.ldc2_w 151, 3) := by decide +kernel
theorem dX9_why_6 : decode cX9_why 6 = .ok (.invokestatic 65, 3) := by decide +kernel
theorem dX9_why_9 : decode cX9_why 9 = .ok (.ifCond .eq 14, 3) := by decide +kernel
theorem dX9_why_12 : decode cX9_why 12 = .ok (.aload_n 0, 1) := by decide +kernel
theorem dX9_why_13 : decode cX9_why 13 = .ok (.iload_n 1, 1) := by decide +kernel
theorem dX9_why_14 : decode cX9_why 14 = .ok (.invokevirtual 74, 3) := by decide +kernel
theorem dX9_why_17 : decode cX9_why 17 = .ok (.invokestatic 112, 3) := by decide +kernel
theorem dX9_why_20 : decode cX9_why 20 = .ok (.goto 5, 3) := by decide +kernel
theorem dX9_why_23 : decode cX9_why 23 = .ok (.ldc 98, 2) := by decide +kernel
theorem dX9_why_25 : decode cX9_why 25 = .ok (.ireturn, 1) := by decide +kernel
theorem dX9_joined_0 : decode cX9_joined 0 = .ok (.iload_n 0, 1) := by decide +kernel
theorem dX9_joined_1 : decode cX9_joined 1 = .ok (.tableswitch 196 38 62 #[182, 196, 196, 196, 123, 115, 196, 119, 196, 127, 196, 196, 196, 196, 196, 196, 196, 196, 196, 196, 196, 196, 149, 171, 160], 115) := by decide +kernel
theorem dX9_joined_116 : decode cX9_joined 116 = .ok (.iload_n 1, 1) := by decide +kernel
theorem dX9_joined_117 : decode cX9_joined 117 = .ok (.iload_n 2, 1) := by decide +kernel
theorem dX9_joined_118 : decode cX9_joined 118 = .ok (.iadd, 1) := by decide +kernel
theorem dX9_joined_119 : decode cX9_joined 119 = .ok (.ireturn, 1) := by decide +kernel
theorem dX9_joined_120 : decode cX9_joined 120 = .ok (.iload_n 1, 1) := by decide +kernel
theorem dX9_joined_121 : decode cX9_joined 121 = .ok (.iload_n 2, 1) := by decide +kernel
theorem dX9_joined_122 : decode cX9_joined 122 = .ok (.isub, 1) := by decide +kernel
theorem dX9_joined_123 : decode cX9_joined 123 = .ok (.ireturn, 1) := by decide +kernel
theorem dX9_joined_124 : decode cX9_joined 124 = .ok (.iload_n 1, 1) := by decide +kernel
theorem dX9_joined_125 : decode cX9_joined 125 = .ok (.iload_n 2, 1) := by decide +kernel
theorem dX9_joined_126 : decode cX9_joined 126 = .ok (.imul, 1) := by decide +kernel
theorem dX9_joined_127 : decode cX9_joined 127 = .ok (.ireturn, 1) := by decide +kernel
theorem dX9_joined_128 : decode cX9_joined 128 = .ok (.iload_n 2, 1) := by decide +kernel
theorem dX9_joined_129 : decode cX9_joined 129 = .ok (.ifCond .ne 7, 3) := by decide +kernel
theorem dX9_joined_132 : decode cX9_joined 132 = .ok (.iconst 0, 1) := by decide +kernel
theorem dX9_joined_133 : decode cX9_joined 133 = .ok (.goto 16, 3) := by decide +kernel
theorem dX9_joined_136 : decode cX9_joined 136 = .ok (.iload_n 2, 1) := by decide +kernel
theorem dX9_joined_137 : decode cX9_joined 137 = .ok (.iconst (-1), 1) := by decide +kernel
theorem dX9_joined_138 : decode cX9_joined 138 = .ok (.if_icmp .ne 8, 3) := by decide +kernel
theorem dX9_joined_141 : decode cX9_joined 141 = .ok (.iload_n 1, 1) := by decide +kernel
theorem dX9_joined_142 : decode cX9_joined 142 = .ok (.ineg, 1) := by decide +kernel
theorem dX9_joined_143 : decode cX9_joined 143 = .ok (.goto 6, 3) := by decide +kernel
theorem dX9_joined_146 : decode cX9_joined 146 = .ok (.iload_n 1, 1) := by decide +kernel
theorem dX9_joined_147 : decode cX9_joined 147 = .ok (.iload_n 2, 1) := by decide +kernel
theorem dX9_joined_148 : decode cX9_joined 148 = .ok (.idiv, 1) := by decide +kernel
theorem dX9_joined_149 : decode cX9_joined 149 = .ok (.ireturn, 1) := by decide +kernel
theorem dX9_joined_150 : decode cX9_joined 150 = .ok (.iload_n 1, 1) := by decide +kernel
theorem dX9_joined_151 : decode cX9_joined 151 = .ok (.iload_n 2, 1) := by decide +kernel
theorem dX9_joined_152 : decode cX9_joined 152 = .ok (.if_icmp .ge 7, 3) := by decide +kernel
theorem dX9_joined_155 : decode cX9_joined 155 = .ok (.iconst 1, 1) := by decide +kernel
theorem dX9_joined_156 : decode cX9_joined 156 = .ok (.goto 4, 3) := by decide +kernel
theorem dX9_joined_159 : decode cX9_joined 159 = .ok (.iconst 0, 1) := by decide +kernel
theorem dX9_joined_160 : decode cX9_joined 160 = .ok (.ireturn, 1) := by decide +kernel
theorem dX9_joined_161 : decode cX9_joined 161 = .ok (.iload_n 1, 1) := by decide +kernel
theorem dX9_joined_162 : decode cX9_joined 162 = .ok (.iload_n 2, 1) := by decide +kernel
theorem dX9_joined_163 : decode cX9_joined 163 = .ok (.if_icmp .le 7, 3) := by decide +kernel
theorem dX9_joined_166 : decode cX9_joined 166 = .ok (.iconst 1, 1) := by decide +kernel
theorem dX9_joined_167 : decode cX9_joined 167 = .ok (.goto 4, 3) := by decide +kernel
theorem dX9_joined_170 : decode cX9_joined 170 = .ok (.iconst 0, 1) := by decide +kernel
theorem dX9_joined_171 : decode cX9_joined 171 = .ok (.ireturn, 1) := by decide +kernel
theorem dX9_joined_172 : decode cX9_joined 172 = .ok (.iload_n 1, 1) := by decide +kernel
theorem dX9_joined_173 : decode cX9_joined 173 = .ok (.iload_n 2, 1) := by decide +kernel
theorem dX9_joined_174 : decode cX9_joined 174 = .ok (.if_icmp .ne 7, 3) := by decide +kernel
theorem dX9_joined_177 : decode cX9_joined 177 = .ok (.iconst 1, 1) := by decide +kernel
theorem dX9_joined_178 : decode cX9_joined 178 = .ok (.goto 4, 3) := by decide +kernel
theorem dX9_joined_181 : decode cX9_joined 181 = .ok (.iconst 0, 1) := by decide +kernel
theorem dX9_joined_182 : decode cX9_joined 182 = .ok (.ireturn, 1) := by decide +kernel
theorem dX9_joined_183 : decode cX9_joined 183 = .ok (.iload_n 1, 1) := by decide +kernel
theorem dX9_joined_184 : decode cX9_joined 184 = .ok (.ifCond .eq 11, 3) := by decide +kernel
theorem dX9_joined_187 : decode cX9_joined 187 = .ok (.iload_n 2, 1) := by decide +kernel
theorem dX9_joined_188 : decode cX9_joined 188 = .ok (.ifCond .eq 7, 3) := by decide +kernel
theorem dX9_joined_191 : decode cX9_joined 191 = .ok (.iconst 1, 1) := by decide +kernel
theorem dX9_joined_192 : decode cX9_joined 192 = .ok (.goto 4, 3) := by decide +kernel
theorem dX9_joined_195 : decode cX9_joined 195 = .ok (.iconst 0, 1) := by decide +kernel
theorem dX9_joined_196 : decode cX9_joined 196 = .ok (.ireturn, 1) := by decide +kernel
theorem dX9_joined_197 : decode cX9_joined 197 = .ok (.iload_n 1, 1) := by decide +kernel
theorem dX9_joined_198 : decode cX9_joined 198 = .ok (.ifCond .ne 7, 3) := by decide +kernel
theorem dX9_joined_201 : decode cX9_joined 201 = .ok (.iload_n 2, 1) := by decide +kernel
theorem dX9_joined_202 : decode cX9_joined 202 = .ok (.ifCond .eq 7, 3) := by decide +kernel
theorem dX9_joined_205 : decode cX9_joined 205 = .ok (.iconst 1, 1) := by decide +kernel
theorem dX9_joined_206 : decode cX9_joined 206 = .ok (.goto 4, 3) := by decide +kernel
theorem dX9_joined_209 : decode cX9_joined 209 = .ok (.iconst 0, 1) := by decide +kernel
theorem dX9_joined_210 : decode cX9_joined 210 = .ok (.ireturn, 1) := by decide +kernel
theorem dX9_worked_0 : decode cX9_worked 0 = .ok (.iconst 0, 1) := by decide +kernel
theorem dX9_worked_1 : decode cX9_worked 1 = .ok (.istore_n 2, 1) := by decide +kernel
theorem dX9_worked_2 : decode cX9_worked 2 = .ok (.iconst 0, 1) := by decide +kernel
theorem dX9_worked_3 : decode cX9_worked 3 = .ok (.istore_n 3, 1) := by decide +kernel
theorem dX9_worked_4 : decode cX9_worked 4 = .ok (.iload_n 3, 1) := by decide +kernel
theorem dX9_worked_5 : decode cX9_worked 5 = .ok (.aload_n 0, 1) := by decide +kernel
theorem dX9_worked_6 : decode cX9_worked 6 = .ok (.getfield 7, 3) := by decide +kernel
theorem dX9_worked_9 : decode cX9_worked 9 = .ok (.aload_n 0, 1) := by decide +kernel
theorem dX9_worked_10 : decode cX9_worked 10 = .ok (.iload_n 1, 1) := by decide +kernel
theorem dX9_worked_11 : decode cX9_worked 11 = .ok (.invokevirtual 267, 3) := by decide +kernel
theorem dX9_worked_14 : decode cX9_worked 14 = .ok (.iconst 2, 1) := by decide +kernel
theorem dX9_worked_15 : decode cX9_worked 15 = .ok (.iadd, 1) := by decide +kernel
theorem dX9_worked_16 : decode cX9_worked 16 = .ok (.iaload, 1) := by decide +kernel
theorem dX9_worked_17 : decode cX9_worked 17 = .ok (.if_icmp .ge 146, 3) := by decide +kernel
theorem dX9_worked_20 : decode cX9_worked 20 = .ok (.aload_n 0, 1) := by decide +kernel
theorem dX9_worked_21 : decode cX9_worked 21 = .ok (.getfield 7, 3) := by decide +kernel
theorem dX9_worked_24 : decode cX9_worked 24 = .ok (.aload_n 0, 1) := by decide +kernel
theorem dX9_worked_25 : decode cX9_worked 25 = .ok (.iload_n 1, 1) := by decide +kernel
theorem dX9_worked_26 : decode cX9_worked 26 = .ok (.invokevirtual 267, 3) := by decide +kernel
theorem dX9_worked_29 : decode cX9_worked 29 = .ok (.iconst 4, 1) := by decide +kernel
theorem dX9_worked_30 : decode cX9_worked 30 = .ok (.iadd, 1) := by decide +kernel
theorem dX9_worked_31 : decode cX9_worked 31 = .ok (.iconst 2, 1) := by decide +kernel
theorem dX9_worked_32 : decode cX9_worked 32 = .ok (.iload_n 3, 1) := by decide +kernel
theorem dX9_worked_33 : decode cX9_worked 33 = .ok (.imul, 1) := by decide +kernel
theorem dX9_worked_34 : decode cX9_worked 34 = .ok (.iadd, 1) := by decide +kernel
theorem dX9_worked_35 : decode cX9_worked 35 = .ok (.iaload, 1) := by decide +kernel
theorem dX9_worked_36 : decode cX9_worked 36 = .ok (.istore 4, 2) := by decide +kernel
theorem dX9_worked_38 : decode cX9_worked 38 = .ok (.aload_n 0, 1) := by decide +kernel
theorem dX9_worked_39 : decode cX9_worked 39 = .ok (.getfield 7, 3) := by decide +kernel
theorem dX9_worked_42 : decode cX9_worked 42 = .ok (.aload_n 0, 1) := by decide +kernel
theorem dX9_worked_43 : decode cX9_worked 43 = .ok (.iload_n 1, 1) := by decide +kernel
theorem dX9_worked_44 : decode cX9_worked 44 = .ok (.invokevirtual 267, 3) := by decide +kernel
theorem dX9_worked_47 : decode cX9_worked 47 = .ok (.iconst 4, 1) := by decide +kernel
theorem dX9_worked_48 : decode cX9_worked 48 = .ok (.iadd, 1) := by decide +kernel
theorem dX9_worked_49 : decode cX9_worked 49 = .ok (.iconst 2, 1) := by decide +kernel
theorem dX9_worked_50 : decode cX9_worked 50 = .ok (.iload_n 3, 1) := by decide +kernel
theorem dX9_worked_51 : decode cX9_worked 51 = .ok (.imul, 1) := by decide +kernel
theorem dX9_worked_52 : decode cX9_worked 52 = .ok (.iadd, 1) := by decide +kernel
theorem dX9_worked_53 : decode cX9_worked 53 = .ok (.iconst 1, 1) := by decide +kernel
theorem dX9_worked_54 : decode cX9_worked 54 = .ok (.iadd, 1) := by decide +kernel
theorem dX9_worked_55 : decode cX9_worked 55 = .ok (.iaload, 1) := by decide +kernel
theorem dX9_worked_56 : decode cX9_worked 56 = .ok (.istore 5, 2) := by decide +kernel
theorem dX9_worked_58 : decode cX9_worked 58 = .ok (.iload 4, 2) := by decide +kernel
theorem dX9_worked_60 : decode cX9_worked 60 = .ok (.iconst 2, 1) := by decide +kernel
theorem dX9_worked_61 : decode cX9_worked 61 = .ok (.if_icmp .eq 32, 3) := by decide +kernel
theorem dX9_worked_64 : decode cX9_worked 64 = .ok (.aload_n 0, 1) := by decide +kernel
theorem dX9_worked_65 : decode cX9_worked 65 = .ok (.getfield 52, 3) := by decide +kernel
theorem dX9_worked_68 : decode cX9_worked 68 = .ok (.iload_n 2, 1) := by decide +kernel
theorem dX9_worked_69 : decode cX9_worked 69 = .ok (.iload 4, 2) := by decide +kernel
theorem dX9_worked_71 : decode cX9_worked 71 = .ok (.ifCond .ne 8, 3) := by decide +kernel
theorem dX9_worked_74 : decode cX9_worked 74 = .ok (.iload 5, 2) := by decide +kernel
theorem dX9_worked_76 : decode cX9_worked 76 = .ok (.goto 10, 3) := by decide +kernel
theorem dX9_worked_79 : decode cX9_worked 79 = .ok (.aload_n 0, 1) := by decide +kernel
theorem dX9_worked_80 : decode cX9_worked 80 = .ok (.getfield 49, 3) := by decide +kernel
theorem dX9_worked_83 : decode cX9_worked 83 = .ok (.iload 5, 2) := by decide +kernel
theorem dX9_worked_85 : decode cX9_worked 85 = .ok (.iaload, 1) := by decide +kernel
theorem dX9_worked_86 : decode cX9_worked 86 = .ok (.iastore, 1) := by decide +kernel
theorem dX9_worked_87 : decode cX9_worked 87 = .ok (.iinc 2 1, 3) := by decide +kernel
theorem dX9_worked_90 : decode cX9_worked 90 = .ok (.goto 67, 3) := by decide +kernel
theorem dX9_worked_93 : decode cX9_worked 93 = .ok (.iload 5, 2) := by decide +kernel
theorem dX9_worked_95 : decode cX9_worked 95 = .ok (.bipush 33, 2) := by decide +kernel
theorem dX9_worked_97 : decode cX9_worked 97 = .ok (.if_icmp .ne 30, 3) := by decide +kernel
theorem dX9_worked_100 : decode cX9_worked 100 = .ok (.aload_n 0, 1) := by decide +kernel
theorem dX9_worked_101 : decode cX9_worked 101 = .ok (.getfield 52, 3) := by decide +kernel
theorem dX9_worked_104 : decode cX9_worked 104 = .ok (.iload_n 2, 1) := by decide +kernel
theorem dX9_worked_105 : decode cX9_worked 105 = .ok (.iconst 1, 1) := by decide +kernel
theorem dX9_worked_106 : decode cX9_worked 106 = .ok (.isub, 1) := by decide +kernel
theorem dX9_worked_107 : decode cX9_worked 107 = .ok (.aload_n 0, 1) := by decide +kernel
theorem dX9_worked_108 : decode cX9_worked 108 = .ok (.getfield 52, 3) := by decide +kernel
theorem dX9_worked_111 : decode cX9_worked 111 = .ok (.iload_n 2, 1) := by decide +kernel
theorem dX9_worked_112 : decode cX9_worked 112 = .ok (.iconst 1, 1) := by decide +kernel
theorem dX9_worked_113 : decode cX9_worked 113 = .ok (.isub, 1) := by decide +kernel
theorem dX9_worked_114 : decode cX9_worked 114 = .ok (.iaload, 1) := by decide +kernel
theorem dX9_worked_115 : decode cX9_worked 115 = .ok (.ifCond .ne 7, 3) := by decide +kernel
theorem dX9_worked_118 : decode cX9_worked 118 = .ok (.iconst 1, 1) := by decide +kernel
theorem dX9_worked_119 : decode cX9_worked 119 = .ok (.goto 4, 3) := by decide +kernel
theorem dX9_worked_122 : decode cX9_worked 122 = .ok (.iconst 0, 1) := by decide +kernel
theorem dX9_worked_123 : decode cX9_worked 123 = .ok (.iastore, 1) := by decide +kernel
theorem dX9_worked_124 : decode cX9_worked 124 = .ok (.goto 33, 3) := by decide +kernel
theorem dX9_worked_127 : decode cX9_worked 127 = .ok (.iinc 2 (-1), 3) := by decide +kernel
theorem dX9_worked_130 : decode cX9_worked 130 = .ok (.aload_n 0, 1) := by decide +kernel
theorem dX9_worked_131 : decode cX9_worked 131 = .ok (.getfield 52, 3) := by decide +kernel
theorem dX9_worked_134 : decode cX9_worked 134 = .ok (.iload_n 2, 1) := by decide +kernel
theorem dX9_worked_135 : decode cX9_worked 135 = .ok (.iconst 1, 1) := by decide +kernel
theorem dX9_worked_136 : decode cX9_worked 136 = .ok (.isub, 1) := by decide +kernel
theorem dX9_worked_137 : decode cX9_worked 137 = .ok (.iload 5, 2) := by decide +kernel
theorem dX9_worked_139 : decode cX9_worked 139 = .ok (.aload_n 0, 1) := by decide +kernel
theorem dX9_worked_140 : decode cX9_worked 140 = .ok (.getfield 52, 3) := by decide +kernel
theorem dX9_worked_143 : decode cX9_worked 143 = .ok (.iload_n 2, 1) := by decide +kernel
theorem dX9_worked_144 : decode cX9_worked 144 = .ok (.iconst 1, 1) := by decide +kernel
theorem dX9_worked_145 : decode cX9_worked 145 = .ok (.isub, 1) := by decide +kernel
theorem dX9_worked_146 : decode cX9_worked 146 = .ok (.iaload, 1) := by decide +kernel
theorem dX9_worked_147 : decode cX9_worked 147 = .ok (.aload_n 0, 1) := by decide +kernel
theorem dX9_worked_148 : decode cX9_worked 148 = .ok (.getfield 52, 3) := by decide +kernel
theorem dX9_worked_151 : decode cX9_worked 151 = .ok (.iload_n 2, 1) := by decide +kernel
theorem dX9_worked_152 : decode cX9_worked 152 = .ok (.iaload, 1) := by decide +kernel
theorem dX9_worked_153 : decode cX9_worked 153 = .ok (.invokestatic 279, 3) := by decide +kernel
theorem dX9_worked_156 : decode cX9_worked 156 = .ok (.iastore, 1) := by decide +kernel
theorem dX9_worked_157 : decode cX9_worked 157 = .ok (.iinc 3 1, 3) := by decide +kernel
theorem dX9_worked_160 : decode cX9_worked 160 = .ok (.goto (-156), 3) := by decide +kernel
theorem dX9_worked_163 : decode cX9_worked 163 = .ok (.aload_n 0, 1) := by decide +kernel
theorem dX9_worked_164 : decode cX9_worked 164 = .ok (.getfield 52, 3) := by decide +kernel
theorem dX9_worked_167 : decode cX9_worked 167 = .ok (.iconst 0, 1) := by decide +kernel
theorem dX9_worked_168 : decode cX9_worked 168 = .ok (.iaload, 1) := by decide +kernel
theorem dX9_worked_169 : decode cX9_worked 169 = .ok (.ireturn, 1) := by decide +kernel
theorem dX9_isSheet_0 : decode cX9_isSheet 0 = .ok (.iload_n 0, 1) := by decide +kernel
theorem dX9_isSheet_1 : decode cX9_isSheet 1 = .ok (.i2l, 1) := by decide +kernel
theorem dX9_isSheet_2 : decode cX9_isSheet 2 = .ok (.lconst 0, 1) := by decide +kernel
theorem dX9_isSheet_3 : decode cX9_isSheet 3 = .ok (.ldc2_w 283, 3) := by decide +kernel
theorem dX9_isSheet_6 : decode cX9_isSheet 6 = .ok (.invokestatic 65, 3) := by decide +kernel
theorem dX9_isSheet_9 : decode cX9_isSheet 9 = .ok (.ireturn, 1) := by decide +kernel
theorem dX9_sheet_0 : decode cX9_sheet 0 = .ok (.iload_n 1, 1) := by decide +kernel
theorem dX9_sheet_1 : decode cX9_sheet 1 = .ok (.invokestatic 285, 3) := by decide +kernel
theorem dX9_sheet_4 : decode cX9_sheet 4 = .ok (.ifCond .eq 25, 3) := by decide +kernel
theorem dX9_sheet_7 : decode cX9_sheet 7 = .ok (.iload_n 2, 1) := by decide +kernel
theorem dX9_sheet_8 : decode cX9_sheet 8 = .ok (.i2l, 1) := by decide +kernel
theorem dX9_sheet_9 : decode cX9_sheet 9 = .ok (.ldc2_w 288, 3) := by decide +kernel
theorem dX9_sheet_12 : decode cX9_sheet 12 = .ok (.lconst 1, 1) := by decide +kernel
theorem dX9_sheet_13 : decode cX9_sheet 13 = .ok (.invokestatic 65, 3) := by decide +kernel
theorem dX9_sheet_16 : decode cX9_sheet 16 = .ok (.ifCond .eq 13, 3) := by decide +kernel
theorem dX9_sheet_19 : decode cX9_sheet 19 = .ok (.iload_n 2, 1) := by decide +kernel
theorem dX9_sheet_20 : decode cX9_sheet 20 = .ok (.ifCond .lt 12, 3) := by decide +kernel
theorem dX9_sheet_23 : decode cX9_sheet 23 = .ok (.iload_n 3, 1) := by decide +kernel
theorem dX9_sheet_24 : decode cX9_sheet 24 = .ok (.bipush 24, 2) := by decide +kernel
theorem dX9_sheet_26 : decode cX9_sheet 26 = .ok (.if_icmp .le 6, 3) := by decide +kernel
theorem dX9_sheet_29 : decode cX9_sheet 29 = .ok (.ldc 98, 2) := by decide +kernel
theorem dX9_sheet_31 : decode cX9_sheet 31 = .ok (.ireturn, 1) := by decide +kernel
theorem dX9_sheet_32 : decode cX9_sheet 32 = .ok (.iload_n 2, 1) := by decide +kernel
theorem dX9_sheet_33 : decode cX9_sheet 33 = .ok (.ifCond .lt 11, 3) := by decide +kernel
theorem dX9_sheet_36 : decode cX9_sheet 36 = .ok (.iload_n 3, 1) := by decide +kernel
theorem dX9_sheet_37 : decode cX9_sheet 37 = .ok (.ifCond .ge 7, 3) := by decide +kernel
theorem dX9_sheet_40 : decode cX9_sheet 40 = .ok (.ldc_w 290, 3) := by decide +kernel
theorem dX9_sheet_43 : decode cX9_sheet 43 = .ok (.ireturn, 1) := by decide +kernel
theorem dX9_sheet_44 : decode cX9_sheet 44 = .ok (.aload_n 0, 1) := by decide +kernel
theorem dX9_sheet_45 : decode cX9_sheet 45 = .ok (.getfield 19, 3) := by decide +kernel
theorem dX9_sheet_48 : decode cX9_sheet 48 = .ok (.iload_n 1, 1) := by decide +kernel
theorem dX9_sheet_49 : decode cX9_sheet 49 = .ok (.iload_n 2, 1) := by decide +kernel
theorem dX9_sheet_50 : decode cX9_sheet 50 = .ok (.iastore, 1) := by decide +kernel
theorem dX9_sheet_51 : decode cX9_sheet 51 = .ok (.aload_n 0, 1) := by decide +kernel
theorem dX9_sheet_52 : decode cX9_sheet 52 = .ok (.getfield 22, 3) := by decide +kernel
theorem dX9_sheet_55 : decode cX9_sheet 55 = .ok (.iload_n 1, 1) := by decide +kernel
theorem dX9_sheet_56 : decode cX9_sheet 56 = .ok (.iload_n 2, 1) := by decide +kernel
theorem dX9_sheet_57 : decode cX9_sheet 57 = .ok (.ifCond .ge 7, 3) := by decide +kernel
theorem dX9_sheet_60 : decode cX9_sheet 60 = .ok (.iconst 0, 1) := by decide +kernel
theorem dX9_sheet_61 : decode cX9_sheet 61 = .ok (.goto 4, 3) := by decide +kernel
theorem dX9_sheet_64 : decode cX9_sheet 64 = .ok (.iload_n 3, 1) := by decide +kernel
theorem dX9_sheet_65 : decode cX9_sheet 65 = .ok (.iastore, 1) := by decide +kernel
theorem dX9_sheet_66 : decode cX9_sheet 66 = .ok (.iconst 0, 1) := by decide +kernel
theorem dX9_sheet_67 : decode cX9_sheet 67 = .ok (.istore 4, 2) := by decide +kernel
theorem dX9_sheet_69 : decode cX9_sheet 69 = .ok (.iload 4, 2) := by decide +kernel
theorem dX9_sheet_71 : decode cX9_sheet 71 = .ok (.bipush 24, 2) := by decide +kernel
theorem dX9_sheet_73 : decode cX9_sheet 73 = .ok (.if_icmp .ge 22, 3) := by decide +kernel
theorem dX9_sheet_76 : decode cX9_sheet 76 = .ok (.aload_n 0, 1) := by decide +kernel
theorem dX9_sheet_77 : decode cX9_sheet 77 = .ok (.getfield 25, 3) := by decide +kernel
theorem dX9_sheet_80 : decode cX9_sheet 80 = .ok (.bipush 24, 2) := by decide +kernel
theorem dX9_sheet_82 : decode cX9_sheet 82 = .ok (.iload_n 1, 1) := by decide +kernel
theorem dX9_sheet_83 : decode cX9_sheet 83 = .ok (.imul, 1) := by decide +kernel
theorem dX9_sheet_84 : decode cX9_sheet 84 = .ok (.iload 4, 2) := by decide +kernel
theorem dX9_sheet_86 : decode cX9_sheet 86 = .ok (.iadd, 1) := by decide +kernel
theorem dX9_sheet_87 : decode cX9_sheet 87 = .ok (.iconst 0, 1) := by decide +kernel
theorem dX9_sheet_88 : decode cX9_sheet 88 = .ok (.iastore, 1) := by decide +kernel
theorem dX9_sheet_89 : decode cX9_sheet 89 = .ok (.iinc 4 1, 3) := by decide +kernel
theorem dX9_sheet_92 : decode cX9_sheet 92 = .ok (.goto (-23), 3) := by decide +kernel
theorem dX9_sheet_95 : decode cX9_sheet 95 = .ok (.aload_n 0, 1) := by decide +kernel
theorem dX9_sheet_96 : decode cX9_sheet 96 = .ok (.getfield 22, 3) := by decide +kernel
theorem dX9_sheet_99 : decode cX9_sheet 99 = .ok (.iload_n 1, 1) := by decide +kernel
theorem dX9_sheet_100 : decode cX9_sheet 100 = .ok (.iaload, 1) := by decide +kernel
theorem dX9_sheet_101 : decode cX9_sheet 101 = .ok (.ireturn, 1) := by decide +kernel
theorem dX9_mark_0 : decode cX9_mark 0 = .ok (.iload_n 1, 1) := by decide +kernel
theorem dX9_mark_1 : decode cX9_mark 1 = .ok (.invokestatic 285, 3) := by decide +kernel
theorem dX9_mark_4 : decode cX9_mark 4 = .ok (.ifCond .ne 6, 3) := by decide +kernel
theorem dX9_mark_7 : decode cX9_mark 7 = .ok (.ldc 98, 2) := by decide +kernel
theorem dX9_mark_9 : decode cX9_mark 9 = .ok (.ireturn, 1) := by decide +kernel
theorem dX9_mark_10 : decode cX9_mark 10 = .ok (.aload_n 0, 1) := by decide +kernel
theorem dX9_mark_11 : decode cX9_mark 11 = .ok (.getfield 19, 3) := by decide +kernel
theorem dX9_mark_14 : decode cX9_mark 14 = .ok (.iload_n 1, 1) := by decide +kernel
theorem dX9_mark_15 : decode cX9_mark 15 = .ok (.iaload, 1) := by decide +kernel
theorem dX9_mark_16 : decode cX9_mark 16 = .ok (.ifCond .ge 7, 3) := by decide +kernel
theorem dX9_mark_19 : decode cX9_mark 19 = .ok (.ldc_w 291, 3) := by decide +kernel
theorem dX9_mark_22 : decode cX9_mark 22 = .ok (.ireturn, 1) := by decide +kernel
theorem dX9_mark_23 : decode cX9_mark 23 = .ok (.iload_n 2, 1) := by decide +kernel
theorem dX9_mark_24 : decode cX9_mark 24 = .ok (.i2l, 1) := by decide +kernel
theorem dX9_mark_25 : decode cX9_mark 25 = .ok (.lconst 0, 1) := by decide +kernel
theorem dX9_mark_26 : decode cX9_mark 26 = .ok (.aload_n 0, 1) := by decide +kernel
theorem dX9_mark_27 : decode cX9_mark 27 = .ok (.getfield 22, 3) := by decide +kernel
theorem dX9_mark_30 : decode cX9_mark 30 = .ok (.iload_n 1, 1) := by decide +kernel
theorem dX9_mark_31 : decode cX9_mark 31 = .ok (.iaload, 1) := by decide +kernel
theorem dX9_mark_32 : decode cX9_mark 32 = .ok (.iconst 1, 1) := by decide +kernel
theorem dX9_mark_33 : decode cX9_mark 33 = .ok (.isub, 1) := by decide +kernel
theorem dX9_mark_34 : decode cX9_mark 34 = .ok (.i2l, 1) := by decide +kernel
theorem dX9_mark_35 : decode cX9_mark 35 = .ok (.invokestatic 65, 3) := by decide +kernel
theorem dX9_mark_38 : decode cX9_mark 38 = .ok (.ifCond .ne 7, 3) := by decide +kernel
theorem dX9_mark_41 : decode cX9_mark 41 = .ok (.ldc_w 292, 3) := by decide +kernel
theorem dX9_mark_44 : decode cX9_mark 44 = .ok (.ireturn, 1) := by decide +kernel
theorem dX9_mark_45 : decode cX9_mark 45 = .ok (.aload_n 0, 1) := by decide +kernel
theorem dX9_mark_46 : decode cX9_mark 46 = .ok (.getfield 19, 3) := by decide +kernel
theorem dX9_mark_49 : decode cX9_mark 49 = .ok (.iload_n 1, 1) := by decide +kernel
theorem dX9_mark_50 : decode cX9_mark 50 = .ok (.iaload, 1) := by decide +kernel
theorem dX9_mark_51 : decode cX9_mark 51 = .ok (.ifCond .ne 12, 3) := by decide +kernel
theorem dX9_mark_54 : decode cX9_mark 54 = .ok (.iload_n 3, 1) := by decide +kernel
theorem dX9_mark_55 : decode cX9_mark 55 = .ok (.ldc 64, 2) := by decide +kernel
theorem dX9_mark_57 : decode cX9_mark 57 = .ok (.if_icmp .ne 6, 3) := by decide +kernel
theorem dX9_mark_60 : decode cX9_mark 60 = .ok (.ldc 119, 2) := by decide +kernel
theorem dX9_mark_62 : decode cX9_mark 62 = .ok (.ireturn, 1) := by decide +kernel
theorem dX9_mark_63 : decode cX9_mark 63 = .ok (.aload_n 0, 1) := by decide +kernel
theorem dX9_mark_64 : decode cX9_mark 64 = .ok (.getfield 19, 3) := by decide +kernel
theorem dX9_mark_67 : decode cX9_mark 67 = .ok (.iload_n 1, 1) := by decide +kernel
theorem dX9_mark_68 : decode cX9_mark 68 = .ok (.iaload, 1) := by decide +kernel
theorem dX9_mark_69 : decode cX9_mark 69 = .ok (.iconst 1, 1) := by decide +kernel
theorem dX9_mark_70 : decode cX9_mark 70 = .ok (.if_icmp .ne 26, 3) := by decide +kernel
theorem dX9_mark_73 : decode cX9_mark 73 = .ok (.iload_n 3, 1) := by decide +kernel
theorem dX9_mark_74 : decode cX9_mark 74 = .ok (.ldc 64, 2) := by decide +kernel
theorem dX9_mark_76 : decode cX9_mark 76 = .ok (.if_icmp .eq 20, 3) := by decide +kernel
theorem dX9_mark_79 : decode cX9_mark 79 = .ok (.iload_n 3, 1) := by decide +kernel
theorem dX9_mark_80 : decode cX9_mark 80 = .ok (.i2l, 1) := by decide +kernel
theorem dX9_mark_81 : decode cX9_mark 81 = .ok (.ldc2_w 293, 3) := by decide +kernel
theorem dX9_mark_84 : decode cX9_mark 84 = .ok (.ldc2_w 295, 3) := by decide +kernel
theorem dX9_mark_87 : decode cX9_mark 87 = .ok (.invokestatic 65, 3) := by decide +kernel
theorem dX9_mark_90 : decode cX9_mark 90 = .ok (.ifCond .ne 6, 3) := by decide +kernel
theorem dX9_mark_93 : decode cX9_mark 93 = .ok (.ldc 98, 2) := by decide +kernel
theorem dX9_mark_95 : decode cX9_mark 95 = .ok (.ireturn, 1) := by decide +kernel
theorem dX9_mark_96 : decode cX9_mark 96 = .ok (.aload_n 0, 1) := by decide +kernel
theorem dX9_mark_97 : decode cX9_mark 97 = .ok (.getfield 25, 3) := by decide +kernel
theorem dX9_mark_100 : decode cX9_mark 100 = .ok (.bipush 24, 2) := by decide +kernel
theorem dX9_mark_102 : decode cX9_mark 102 = .ok (.iload_n 1, 1) := by decide +kernel
theorem dX9_mark_103 : decode cX9_mark 103 = .ok (.imul, 1) := by decide +kernel
theorem dX9_mark_104 : decode cX9_mark 104 = .ok (.iload_n 2, 1) := by decide +kernel
theorem dX9_mark_105 : decode cX9_mark 105 = .ok (.iadd, 1) := by decide +kernel
theorem dX9_mark_106 : decode cX9_mark 106 = .ok (.aload_n 0, 1) := by decide +kernel
theorem dX9_mark_107 : decode cX9_mark 107 = .ok (.getfield 19, 3) := by decide +kernel
theorem dX9_mark_110 : decode cX9_mark 110 = .ok (.iload_n 1, 1) := by decide +kernel
theorem dX9_mark_111 : decode cX9_mark 111 = .ok (.iaload, 1) := by decide +kernel
theorem dX9_mark_112 : decode cX9_mark 112 = .ok (.ifCond .ne 13, 3) := by decide +kernel
theorem dX9_mark_115 : decode cX9_mark 115 = .ok (.iload_n 3, 1) := by decide +kernel
theorem dX9_mark_116 : decode cX9_mark 116 = .ok (.bipush 16, 2) := by decide +kernel
theorem dX9_mark_118 : decode cX9_mark 118 = .ok (.ishl, 1) := by decide +kernel
theorem dX9_mark_119 : decode cX9_mark 119 = .ok (.bipush 16, 2) := by decide +kernel
theorem dX9_mark_121 : decode cX9_mark 121 = .ok (.ishr, 1) := by decide +kernel
theorem dX9_mark_122 : decode cX9_mark 122 = .ok (.goto 4, 3) := by decide +kernel
theorem dX9_mark_125 : decode cX9_mark 125 = .ok (.iload_n 3, 1) := by decide +kernel
theorem dX9_mark_126 : decode cX9_mark 126 = .ok (.iastore, 1) := by decide +kernel
theorem dX9_mark_127 : decode cX9_mark 127 = .ok (.iconst 1, 1) := by decide +kernel
theorem dX9_mark_128 : decode cX9_mark 128 = .ok (.ireturn, 1) := by decide +kernel
theorem dX9_pour_0 : decode cX9_pour 0 = .ok (.iload_n 1, 1) := by decide +kernel
theorem dX9_pour_1 : decode cX9_pour 1 = .ok (.invokestatic 285, 3) := by decide +kernel
theorem dX9_pour_4 : decode cX9_pour 4 = .ok (.ifCond .eq 15, 3) := by decide +kernel
theorem dX9_pour_7 : decode cX9_pour 7 = .ok (.iload_n 2, 1) := by decide +kernel
theorem dX9_pour_8 : decode cX9_pour 8 = .ok (.i2l, 1) := by decide +kernel
theorem dX9_pour_9 : decode cX9_pour 9 = .ok (.lconst 0, 1) := by decide +kernel
theorem dX9_pour_10 : decode cX9_pour 10 = .ok (.ldc2_w 297, 3) := by decide +kernel
theorem dX9_pour_13 : decode cX9_pour 13 = .ok (.invokestatic 65, 3) := by decide +kernel
theorem dX9_pour_16 : decode cX9_pour 16 = .ok (.ifCond .ne 6, 3) := by decide +kernel
theorem dX9_pour_19 : decode cX9_pour 19 = .ok (.ldc 98, 2) := by decide +kernel
theorem dX9_pour_21 : decode cX9_pour 21 = .ok (.ireturn, 1) := by decide +kernel
theorem dX9_pour_22 : decode cX9_pour 22 = .ok (.aload_n 0, 1) := by decide +kernel
theorem dX9_pour_23 : decode cX9_pour 23 = .ok (.getfield 19, 3) := by decide +kernel
theorem dX9_pour_26 : decode cX9_pour 26 = .ok (.iload_n 1, 1) := by decide +kernel
theorem dX9_pour_27 : decode cX9_pour 27 = .ok (.iaload, 1) := by decide +kernel
theorem dX9_pour_28 : decode cX9_pour 28 = .ok (.ifCond .ge 7, 3) := by decide +kernel
theorem dX9_pour_31 : decode cX9_pour 31 = .ok (.ldc_w 291, 3) := by decide +kernel
theorem dX9_pour_34 : decode cX9_pour 34 = .ok (.ireturn, 1) := by decide +kernel
theorem dX9_pour_35 : decode cX9_pour 35 = .ok (.iconst 0, 1) := by decide +kernel
theorem dX9_pour_36 : decode cX9_pour 36 = .ok (.istore_n 3, 1) := by decide +kernel
theorem dX9_pour_37 : decode cX9_pour 37 = .ok (.iconst 0, 1) := by decide +kernel
theorem dX9_pour_38 : decode cX9_pour 38 = .ok (.istore 4, 2) := by decide +kernel
theorem dX9_pour_40 : decode cX9_pour 40 = .ok (.iload 4, 2) := by decide +kernel
theorem dX9_pour_42 : decode cX9_pour 42 = .ok (.aload_n 0, 1) := by decide +kernel
theorem dX9_pour_43 : decode cX9_pour 43 = .ok (.getfield 22, 3) := by decide +kernel
theorem dX9_pour_46 : decode cX9_pour 46 = .ok (.iload_n 1, 1) := by decide +kernel
theorem dX9_pour_47 : decode cX9_pour 47 = .ok (.iaload, 1) := by decide +kernel
theorem dX9_pour_48 : decode cX9_pour 48 = .ok (.if_icmp .ge 94, 3) := by decide +kernel
theorem dX9_pour_51 : decode cX9_pour 51 = .ok (.iload 4, 2) := by decide +kernel
theorem dX9_pour_53 : decode cX9_pour 53 = .ok (.bipush 6, 2) := by decide +kernel
theorem dX9_pour_55 : decode cX9_pour 55 = .ok (.if_icmp .ge 87, 3) := by decide +kernel
theorem dX9_pour_58 : decode cX9_pour 58 = .ok (.aload_n 0, 1) := by decide +kernel
theorem dX9_pour_59 : decode cX9_pour 59 = .ok (.getfield 25, 3) := by decide +kernel
theorem dX9_pour_62 : decode cX9_pour 62 = .ok (.bipush 24, 2) := by decide +kernel
theorem dX9_pour_64 : decode cX9_pour 64 = .ok (.iload_n 1, 1) := by decide +kernel
theorem dX9_pour_65 : decode cX9_pour 65 = .ok (.imul, 1) := by decide +kernel
theorem dX9_pour_66 : decode cX9_pour 66 = .ok (.iload 4, 2) := by decide +kernel
theorem dX9_pour_68 : decode cX9_pour 68 = .ok (.iadd, 1) := by decide +kernel
theorem dX9_pour_69 : decode cX9_pour 69 = .ok (.iaload, 1) := by decide +kernel
theorem dX9_pour_70 : decode cX9_pour 70 = .ok (.istore 5, 2) := by decide +kernel
theorem dX9_pour_72 : decode cX9_pour 72 = .ok (.aload_n 0, 1) := by decide +kernel
theorem dX9_pour_73 : decode cX9_pour 73 = .ok (.bipush 6, 2) := by decide +kernel
theorem dX9_pour_75 : decode cX9_pour 75 = .ok (.iload_n 2, 1) := by decide +kernel
theorem dX9_pour_76 : decode cX9_pour 76 = .ok (.imul, 1) := by decide +kernel
theorem dX9_pour_77 : decode cX9_pour 77 = .ok (.iload 4, 2) := by decide +kernel
theorem dX9_pour_79 : decode cX9_pour 79 = .ok (.iadd, 1) := by decide +kernel
theorem dX9_pour_80 : decode cX9_pour 80 = .ok (.iconst 2, 1) := by decide +kernel
theorem dX9_pour_81 : decode cX9_pour 81 = .ok (.invokevirtual 70, 3) := by decide +kernel
theorem dX9_pour_84 : decode cX9_pour 84 = .ok (.istore 6, 2) := by decide +kernel
theorem dX9_pour_86 : decode cX9_pour 86 = .ok (.iload 5, 2) := by decide +kernel
theorem dX9_pour_88 : decode cX9_pour 88 = .ok (.ldc 64, 2) := by decide +kernel
theorem dX9_pour_90 : decode cX9_pour 90 = .ok (.if_icmp .ne 8, 3) := by decide +kernel
theorem dX9_pour_93 : decode cX9_pour 93 = .ok (.iload 6, 2) := by decide +kernel
theorem dX9_pour_95 : decode cX9_pour 95 = .ok (.goto 10, 3) := by decide +kernel
theorem dX9_pour_98 : decode cX9_pour 98 = .ok (.iload 5, 2) := by decide +kernel
theorem dX9_pour_100 : decode cX9_pour 100 = .ok (.bipush 99, 2) := by decide +kernel
theorem dX9_pour_102 : decode cX9_pour 102 = .ok (.invokestatic 84, 3) := by decide +kernel
theorem dX9_pour_105 : decode cX9_pour 105 = .ok (.istore 7, 2) := by decide +kernel
theorem dX9_pour_107 : decode cX9_pour 107 = .ok (.aload_n 0, 1) := by decide +kernel
theorem dX9_pour_108 : decode cX9_pour 108 = .ok (.bipush 6, 2) := by decide +kernel
theorem dX9_pour_110 : decode cX9_pour 110 = .ok (.iload_n 2, 1) := by decide +kernel
theorem dX9_pour_111 : decode cX9_pour 111 = .ok (.imul, 1) := by decide +kernel
theorem dX9_pour_112 : decode cX9_pour 112 = .ok (.iload 4, 2) := by decide +kernel
theorem dX9_pour_114 : decode cX9_pour 114 = .ok (.iadd, 1) := by decide +kernel
theorem dX9_pour_115 : decode cX9_pour 115 = .ok (.iconst 2, 1) := by decide +kernel
theorem dX9_pour_116 : decode cX9_pour 116 = .ok (.iload 7, 2) := by decide +kernel
theorem dX9_pour_118 : decode cX9_pour 118 = .ok (.invokevirtual 99, 3) := by decide +kernel
theorem dX9_pour_121 : decode cX9_pour 121 = .ok (.iload_n 3, 1) := by decide +kernel
theorem dX9_pour_122 : decode cX9_pour 122 = .ok (.iload 7, 2) := by decide +kernel
theorem dX9_pour_124 : decode cX9_pour 124 = .ok (.iload 6, 2) := by decide +kernel
theorem dX9_pour_126 : decode cX9_pour 126 = .ok (.if_icmp .ne 7, 3) := by decide +kernel
theorem dX9_pour_129 : decode cX9_pour 129 = .ok (.iconst 0, 1) := by decide +kernel
theorem dX9_pour_130 : decode cX9_pour 130 = .ok (.goto 4, 3) := by decide +kernel
theorem dX9_pour_133 : decode cX9_pour 133 = .ok (.iconst 1, 1) := by decide +kernel
theorem dX9_pour_134 : decode cX9_pour 134 = .ok (.iadd, 1) := by decide +kernel
theorem dX9_pour_135 : decode cX9_pour 135 = .ok (.istore_n 3, 1) := by decide +kernel
theorem dX9_pour_136 : decode cX9_pour 136 = .ok (.iinc 4 1, 3) := by decide +kernel
theorem dX9_pour_139 : decode cX9_pour 139 = .ok (.goto (-99), 3) := by decide +kernel
theorem dX9_pour_142 : decode cX9_pour 142 = .ok (.iload_n 3, 1) := by decide +kernel
theorem dX9_pour_143 : decode cX9_pour 143 = .ok (.ireturn, 1) := by decide +kernel
theorem dX9_reads_0 : decode cX9_reads 0 = .ok (.iload_n 1, 1) := by decide +kernel
theorem dX9_reads_1 : decode cX9_reads 1 = .ok (.invokestatic 285, 3) := by decide +kernel
theorem dX9_reads_4 : decode cX9_reads 4 = .ok (.ifCond .ne 6, 3) := by decide +kernel
theorem dX9_reads_7 : decode cX9_reads 7 = .ok (.ldc 98, 2) := by decide +kernel
theorem dX9_reads_9 : decode cX9_reads 9 = .ok (.ireturn, 1) := by decide +kernel
theorem dX9_reads_10 : decode cX9_reads 10 = .ok (.aload_n 0, 1) := by decide +kernel
theorem dX9_reads_11 : decode cX9_reads 11 = .ok (.getfield 19, 3) := by decide +kernel
theorem dX9_reads_14 : decode cX9_reads 14 = .ok (.iload_n 1, 1) := by decide +kernel
theorem dX9_reads_15 : decode cX9_reads 15 = .ok (.iaload, 1) := by decide +kernel
theorem dX9_reads_16 : decode cX9_reads 16 = .ok (.ifCond .ge 7, 3) := by decide +kernel
theorem dX9_reads_19 : decode cX9_reads 19 = .ok (.ldc_w 291, 3) := by decide +kernel
theorem dX9_reads_22 : decode cX9_reads 22 = .ok (.ireturn, 1) := by decide +kernel
theorem dX9_reads_23 : decode cX9_reads 23 = .ok (.iconst 0, 1) := by decide +kernel
theorem dX9_reads_24 : decode cX9_reads 24 = .ok (.istore_n 2, 1) := by decide +kernel
theorem dX9_reads_25 : decode cX9_reads 25 = .ok (.iload_n 2, 1) := by decide +kernel
theorem dX9_reads_26 : decode cX9_reads 26 = .ok (.aload_n 0, 1) := by decide +kernel
theorem dX9_reads_27 : decode cX9_reads 27 = .ok (.getfield 22, 3) := by decide +kernel
theorem dX9_reads_30 : decode cX9_reads 30 = .ok (.iload_n 1, 1) := by decide +kernel
theorem dX9_reads_31 : decode cX9_reads 31 = .ok (.iaload, 1) := by decide +kernel
theorem dX9_reads_32 : decode cX9_reads 32 = .ok (.if_icmp .ge 38, 3) := by decide +kernel
theorem dX9_reads_35 : decode cX9_reads 35 = .ok (.aload_n 0, 1) := by decide +kernel
theorem dX9_reads_36 : decode cX9_reads 36 = .ok (.getfield 25, 3) := by decide +kernel
theorem dX9_reads_39 : decode cX9_reads 39 = .ok (.bipush 24, 2) := by decide +kernel
theorem dX9_reads_41 : decode cX9_reads 41 = .ok (.iload_n 1, 1) := by decide +kernel
theorem dX9_reads_42 : decode cX9_reads 42 = .ok (.imul, 1) := by decide +kernel
theorem dX9_reads_43 : decode cX9_reads 43 = .ok (.iload_n 2, 1) := by decide +kernel
theorem dX9_reads_44 : decode cX9_reads 44 = .ok (.iadd, 1) := by decide +kernel
theorem dX9_reads_45 : decode cX9_reads 45 = .ok (.iaload, 1) := by decide +kernel
theorem dX9_reads_46 : decode cX9_reads 46 = .ok (.istore_n 3, 1) := by decide +kernel
theorem dX9_reads_47 : decode cX9_reads 47 = .ok (.iload_n 3, 1) := by decide +kernel
theorem dX9_reads_48 : decode cX9_reads 48 = .ok (.ldc 64, 2) := by decide +kernel
theorem dX9_reads_50 : decode cX9_reads 50 = .ok (.if_icmp .eq 14, 3) := by decide +kernel
theorem dX9_reads_53 : decode cX9_reads 53 = .ok (.iload_n 3, 1) := by decide +kernel
theorem dX9_reads_54 : decode cX9_reads 54 = .ok (.aload_n 0, 1) := by decide +kernel
theorem dX9_reads_55 : decode cX9_reads 55 = .ok (.iload_n 2, 1) := by decide +kernel
theorem dX9_reads_56 : decode cX9_reads 56 = .ok (.invokevirtual 87, 3) := by decide +kernel
theorem dX9_reads_59 : decode cX9_reads 59 = .ok (.if_icmp .eq 5, 3) := by decide +kernel
theorem dX9_reads_62 : decode cX9_reads 62 = .ok (.iload_n 2, 1) := by decide +kernel
theorem dX9_reads_63 : decode cX9_reads 63 = .ok (.ireturn, 1) := by decide +kernel
theorem dX9_reads_64 : decode cX9_reads 64 = .ok (.iinc 2 1, 3) := by decide +kernel
theorem dX9_reads_67 : decode cX9_reads 67 = .ok (.goto (-42), 3) := by decide +kernel
theorem dX9_reads_70 : decode cX9_reads 70 = .ok (.ldc 64, 2) := by decide +kernel
theorem dX9_reads_72 : decode cX9_reads 72 = .ok (.ireturn, 1) := by decide +kernel
theorem dX9_copy_0 : decode cX9_copy 0 = .ok (.iload_n 1, 1) := by decide +kernel
theorem dX9_copy_1 : decode cX9_copy 1 = .ok (.invokestatic 285, 3) := by decide +kernel
theorem dX9_copy_4 : decode cX9_copy 4 = .ok (.ifCond .eq 10, 3) := by decide +kernel
theorem dX9_copy_7 : decode cX9_copy 7 = .ok (.iload_n 3, 1) := by decide +kernel
theorem dX9_copy_8 : decode cX9_copy 8 = .ok (.invokestatic 285, 3) := by decide +kernel
theorem dX9_copy_11 : decode cX9_copy 11 = .ok (.ifCond .ne 6, 3) := by decide +kernel
theorem dX9_copy_14 : decode cX9_copy 14 = .ok (.ldc 98, 2) := by decide +kernel
theorem dX9_copy_16 : decode cX9_copy 16 = .ok (.ireturn, 1) := by decide +kernel
theorem dX9_copy_17 : decode cX9_copy 17 = .ok (.aload_n 0, 1) := by decide +kernel
theorem dX9_copy_18 : decode cX9_copy 18 = .ok (.getfield 19, 3) := by decide +kernel
theorem dX9_copy_21 : decode cX9_copy 21 = .ok (.iload_n 1, 1) := by decide +kernel
theorem dX9_copy_22 : decode cX9_copy 22 = .ok (.iaload, 1) := by decide +kernel
theorem dX9_copy_23 : decode cX9_copy 23 = .ok (.ifCond .lt 12, 3) := by decide +kernel
theorem dX9_copy_26 : decode cX9_copy 26 = .ok (.aload_n 0, 1) := by decide +kernel
theorem dX9_copy_27 : decode cX9_copy 27 = .ok (.getfield 19, 3) := by decide +kernel
theorem dX9_copy_30 : decode cX9_copy 30 = .ok (.iload_n 3, 1) := by decide +kernel
theorem dX9_copy_31 : decode cX9_copy 31 = .ok (.iaload, 1) := by decide +kernel
theorem dX9_copy_32 : decode cX9_copy 32 = .ok (.ifCond .ge 7, 3) := by decide +kernel
theorem dX9_copy_35 : decode cX9_copy 35 = .ok (.ldc_w 291, 3) := by decide +kernel
theorem dX9_copy_38 : decode cX9_copy 38 = .ok (.ireturn, 1) := by decide +kernel
theorem dX9_copy_39 : decode cX9_copy 39 = .ok (.aload_n 0, 1) := by decide +kernel
theorem dX9_copy_40 : decode cX9_copy 40 = .ok (.getfield 19, 3) := by decide +kernel
theorem dX9_copy_43 : decode cX9_copy 43 = .ok (.iload_n 1, 1) := by decide +kernel
theorem dX9_copy_44 : decode cX9_copy 44 = .ok (.iaload, 1) := by decide +kernel
theorem dX9_copy_45 : decode cX9_copy 45 = .ok (.aload_n 0, 1) := by decide +kernel
theorem dX9_copy_46 : decode cX9_copy 46 = .ok (.getfield 19, 3) := by decide +kernel
theorem dX9_copy_49 : decode cX9_copy 49 = .ok (.iload_n 3, 1) := by decide +kernel
theorem dX9_copy_50 : decode cX9_copy 50 = .ok (.iaload, 1) := by decide +kernel
theorem dX9_copy_51 : decode cX9_copy 51 = .ok (.if_icmp .eq 6, 3) := by decide +kernel
theorem dX9_copy_54 : decode cX9_copy 54 = .ok (.ldc 119, 2) := by decide +kernel
theorem dX9_copy_56 : decode cX9_copy 56 = .ok (.ireturn, 1) := by decide +kernel
theorem dX9_copy_57 : decode cX9_copy 57 = .ok (.iload_n 2, 1) := by decide +kernel
theorem dX9_copy_58 : decode cX9_copy 58 = .ok (.ifCond .lt 48, 3) := by decide +kernel
theorem dX9_copy_61 : decode cX9_copy 61 = .ok (.iload 4, 2) := by decide +kernel
theorem dX9_copy_63 : decode cX9_copy 63 = .ok (.ifCond .lt 43, 3) := by decide +kernel
theorem dX9_copy_66 : decode cX9_copy 66 = .ok (.iload 5, 2) := by decide +kernel
theorem dX9_copy_68 : decode cX9_copy 68 = .ok (.ifCond .lt 38, 3) := by decide +kernel
theorem dX9_copy_71 : decode cX9_copy 71 = .ok (.iload_n 2, 1) := by decide +kernel
theorem dX9_copy_72 : decode cX9_copy 72 = .ok (.i2l, 1) := by decide +kernel
theorem dX9_copy_73 : decode cX9_copy 73 = .ok (.iload 5, 2) := by decide +kernel
theorem dX9_copy_75 : decode cX9_copy 75 = .ok (.i2l, 1) := by decide +kernel
theorem dX9_copy_76 : decode cX9_copy 76 = .ok (.ladd, 1) := by decide +kernel
theorem dX9_copy_77 : decode cX9_copy 77 = .ok (.aload_n 0, 1) := by decide +kernel
theorem dX9_copy_78 : decode cX9_copy 78 = .ok (.getfield 22, 3) := by decide +kernel
theorem dX9_copy_81 : decode cX9_copy 81 = .ok (.iload_n 1, 1) := by decide +kernel
theorem dX9_copy_82 : decode cX9_copy 82 = .ok (.iaload, 1) := by decide +kernel
theorem dX9_copy_83 : decode cX9_copy 83 = .ok (.i2l, 1) := by decide +kernel
theorem dX9_copy_84 : decode cX9_copy 84 = .ok (.lcmp, 1) := by decide +kernel
theorem dX9_copy_85 : decode cX9_copy 85 = .ok (.ifCond .gt 21, 3) := by decide +kernel
theorem dX9_copy_88 : decode cX9_copy 88 = .ok (.iload 4, 2) := by decide +kernel
theorem dX9_copy_90 : decode cX9_copy 90 = .ok (.i2l, 1) := by decide +kernel
theorem dX9_copy_91 : decode cX9_copy 91 = .ok (.iload 5, 2) := by decide +kernel
theorem dX9_copy_93 : decode cX9_copy 93 = .ok (.i2l, 1) := by decide +kernel
theorem dX9_copy_94 : decode cX9_copy 94 = .ok (.ladd, 1) := by decide +kernel
theorem dX9_copy_95 : decode cX9_copy 95 = .ok (.aload_n 0, 1) := by decide +kernel
theorem dX9_copy_96 : decode cX9_copy 96 = .ok (.getfield 22, 3) := by decide +kernel
theorem dX9_copy_99 : decode cX9_copy 99 = .ok (.iload_n 3, 1) := by decide +kernel
theorem dX9_copy_100 : decode cX9_copy 100 = .ok (.iaload, 1) := by decide +kernel
theorem dX9_copy_101 : decode cX9_copy 101 = .ok (.i2l, 1) := by decide +kernel
theorem dX9_copy_102 : decode cX9_copy 102 = .ok (.lcmp, 1) := by decide +kernel
theorem dX9_copy_103 : decode cX9_copy 103 = .ok (.ifCond .le 7, 3) := by decide +kernel
theorem dX9_copy_106 : decode cX9_copy 106 = .ok (.ldc_w 292, 3) := by decide +kernel
theorem dX9_copy_109 : decode cX9_copy 109 = .ok (.ireturn, 1) := by decide +kernel
theorem dX9_copy_110 : decode cX9_copy 110 = .ok (.iconst 0, 1) := by decide +kernel
theorem dX9_copy_111 : decode cX9_copy 111 = .ok (.istore 6, 2) := by decide +kernel
theorem dX9_copy_113 : decode cX9_copy 113 = .ok (.iload 6, 2) := by decide +kernel
theorem dX9_copy_115 : decode cX9_copy 115 = .ok (.iload 5, 2) := by decide +kernel
theorem dX9_copy_117 : decode cX9_copy 117 = .ok (.if_icmp .ge 30, 3) := by decide +kernel
theorem dX9_copy_120 : decode cX9_copy 120 = .ok (.aload_n 0, 1) := by decide +kernel
theorem dX9_copy_121 : decode cX9_copy 121 = .ok (.getfield 55, 3) := by decide +kernel
theorem dX9_copy_124 : decode cX9_copy 124 = .ok (.iload 6, 2) := by decide +kernel
theorem dX9_copy_126 : decode cX9_copy 126 = .ok (.aload_n 0, 1) := by decide +kernel
theorem dX9_copy_127 : decode cX9_copy 127 = .ok (.getfield 25, 3) := by decide +kernel
theorem dX9_copy_130 : decode cX9_copy 130 = .ok (.bipush 24, 2) := by decide +kernel
theorem dX9_copy_132 : decode cX9_copy 132 = .ok (.iload_n 1, 1) := by decide +kernel
theorem dX9_copy_133 : decode cX9_copy 133 = .ok (.imul, 1) := by decide +kernel
theorem dX9_copy_134 : decode cX9_copy 134 = .ok (.iload_n 2, 1) := by decide +kernel
theorem dX9_copy_135 : decode cX9_copy 135 = .ok (.iadd, 1) := by decide +kernel
theorem dX9_copy_136 : decode cX9_copy 136 = .ok (.iload 6, 2) := by decide +kernel
theorem dX9_copy_138 : decode cX9_copy 138 = .ok (.iadd, 1) := by decide +kernel
theorem dX9_copy_139 : decode cX9_copy 139 = .ok (.iaload, 1) := by decide +kernel
theorem dX9_copy_140 : decode cX9_copy 140 = .ok (.iastore, 1) := by decide +kernel
theorem dX9_copy_141 : decode cX9_copy 141 = .ok (.iinc 6 1, 3) := by decide +kernel
theorem dX9_copy_144 : decode cX9_copy 144 = .ok (.goto (-31), 3) := by decide +kernel
theorem dX9_copy_147 : decode cX9_copy 147 = .ok (.iconst 0, 1) := by decide +kernel
theorem dX9_copy_148 : decode cX9_copy 148 = .ok (.istore 6, 2) := by decide +kernel
theorem dX9_copy_150 : decode cX9_copy 150 = .ok (.iload 6, 2) := by decide +kernel
theorem dX9_copy_152 : decode cX9_copy 152 = .ok (.iload 5, 2) := by decide +kernel
theorem dX9_copy_154 : decode cX9_copy 154 = .ok (.if_icmp .ge 31, 3) := by decide +kernel
theorem dX9_copy_157 : decode cX9_copy 157 = .ok (.aload_n 0, 1) := by decide +kernel
theorem dX9_copy_158 : decode cX9_copy 158 = .ok (.getfield 25, 3) := by decide +kernel
theorem dX9_copy_161 : decode cX9_copy 161 = .ok (.bipush 24, 2) := by decide +kernel
theorem dX9_copy_163 : decode cX9_copy 163 = .ok (.iload_n 3, 1) := by decide +kernel
theorem dX9_copy_164 : decode cX9_copy 164 = .ok (.imul, 1) := by decide +kernel
theorem dX9_copy_165 : decode cX9_copy 165 = .ok (.iload 4, 2) := by decide +kernel
theorem dX9_copy_167 : decode cX9_copy 167 = .ok (.iadd, 1) := by decide +kernel
theorem dX9_copy_168 : decode cX9_copy 168 = .ok (.iload 6, 2) := by decide +kernel
theorem dX9_copy_170 : decode cX9_copy 170 = .ok (.iadd, 1) := by decide +kernel
theorem dX9_copy_171 : decode cX9_copy 171 = .ok (.aload_n 0, 1) := by decide +kernel
theorem dX9_copy_172 : decode cX9_copy 172 = .ok (.getfield 55, 3) := by decide +kernel
theorem dX9_copy_175 : decode cX9_copy 175 = .ok (.iload 6, 2) := by decide +kernel
theorem dX9_copy_177 : decode cX9_copy 177 = .ok (.iaload, 1) := by decide +kernel
theorem dX9_copy_178 : decode cX9_copy 178 = .ok (.iastore, 1) := by decide +kernel
theorem dX9_copy_179 : decode cX9_copy 179 = .ok (.iinc 6 1, 3) := by decide +kernel
theorem dX9_copy_182 : decode cX9_copy 182 = .ok (.goto (-32), 3) := by decide +kernel
theorem dX9_copy_185 : decode cX9_copy 185 = .ok (.iload 5, 2) := by decide +kernel
theorem dX9_copy_187 : decode cX9_copy 187 = .ok (.ireturn, 1) := by decide +kernel
theorem dX9_isSlot_0 : decode cX9_isSlot 0 = .ok (.iload_n 0, 1) := by decide +kernel
theorem dX9_isSlot_1 : decode cX9_isSlot 1 = .ok (.i2l, 1) := by decide +kernel
theorem dX9_isSlot_2 : decode cX9_isSlot 2 = .ok (.lconst 0, 1) := by decide +kernel
theorem dX9_isSlot_3 : decode cX9_isSlot 3 = .ok (.ldc2_w 297, 3) := by decide +kernel
theorem dX9_isSlot_6 : decode cX9_isSlot 6 = .ok (.invokestatic 65, 3) := by decide +kernel
theorem dX9_isSlot_9 : decode cX9_isSlot 9 = .ok (.ireturn, 1) := by decide +kernel
theorem dX9_lay_0 : decode cX9_lay 0 = .ok (.iload_n 2, 1) := by decide +kernel
theorem dX9_lay_1 : decode cX9_lay 1 = .ok (.ifCond .eq 32, 3) := by decide +kernel
theorem dX9_lay_4 : decode cX9_lay 4 = .ok (.iload_n 2, 1) := by decide +kernel
theorem dX9_lay_5 : decode cX9_lay 5 = .ok (.iconst 3, 1) := by decide +kernel
theorem dX9_lay_6 : decode cX9_lay 6 = .ok (.if_icmp .eq 27, 3) := by decide +kernel
theorem dX9_lay_9 : decode cX9_lay 9 = .ok (.iload_n 2, 1) := by decide +kernel
theorem dX9_lay_10 : decode cX9_lay 10 = .ok (.iconst 1, 1) := by decide +kernel
theorem dX9_lay_11 : decode cX9_lay 11 = .ok (.if_icmp .ne 10, 3) := by decide +kernel
theorem dX9_lay_14 : decode cX9_lay 14 = .ok (.iload_n 3, 1) := by decide +kernel
theorem dX9_lay_15 : decode cX9_lay 15 = .ok (.invokestatic 90, 3) := by decide +kernel
theorem dX9_lay_18 : decode cX9_lay 18 = .ok (.ifCond .ne 15, 3) := by decide +kernel
theorem dX9_lay_21 : decode cX9_lay 21 = .ok (.iload_n 2, 1) := by decide +kernel
theorem dX9_lay_22 : decode cX9_lay 22 = .ok (.iconst 2, 1) := by decide +kernel
theorem dX9_lay_23 : decode cX9_lay 23 = .ok (.if_icmp .ne 14, 3) := by decide +kernel
theorem dX9_lay_26 : decode cX9_lay 26 = .ok (.iload_n 3, 1) := by decide +kernel
theorem dX9_lay_27 : decode cX9_lay 27 = .ok (.invokestatic 285, 3) := by decide +kernel
theorem dX9_lay_30 : decode cX9_lay 30 = .ok (.ifCond .eq 7, 3) := by decide +kernel
theorem dX9_lay_33 : decode cX9_lay 33 = .ok (.iconst 1, 1) := by decide +kernel
theorem dX9_lay_34 : decode cX9_lay 34 = .ok (.goto 4, 3) := by decide +kernel
theorem dX9_lay_37 : decode cX9_lay 37 = .ok (.iconst 0, 1) := by decide +kernel
theorem dX9_lay_38 : decode cX9_lay 38 = .ok (.istore 4, 2) := by decide +kernel
theorem dX9_lay_40 : decode cX9_lay 40 = .ok (.iload_n 1, 1) := by decide +kernel
theorem dX9_lay_41 : decode cX9_lay 41 = .ok (.invokestatic 299, 3) := by decide +kernel
theorem dX9_lay_44 : decode cX9_lay 44 = .ok (.ifCond .eq 8, 3) := by decide +kernel
theorem dX9_lay_47 : decode cX9_lay 47 = .ok (.iload 4, 2) := by decide +kernel
theorem dX9_lay_49 : decode cX9_lay 49 = .ok (.ifCond .ne 6, 3) := by decide +kernel
theorem dX9_lay_52 : decode cX9_lay 52 = .ok (.ldc 98, 2) := by decide +kernel
theorem dX9_lay_54 : decode cX9_lay 54 = .ok (.ireturn, 1) := by decide +kernel
theorem dX9_lay_55 : decode cX9_lay 55 = .ok (.iload_n 2, 1) := by decide +kernel
theorem dX9_lay_56 : decode cX9_lay 56 = .ok (.iconst 2, 1) := by decide +kernel
theorem dX9_lay_57 : decode cX9_lay 57 = .ok (.if_icmp .ne 16, 3) := by decide +kernel
theorem dX9_lay_60 : decode cX9_lay 60 = .ok (.aload_n 0, 1) := by decide +kernel
theorem dX9_lay_61 : decode cX9_lay 61 = .ok (.getfield 19, 3) := by decide +kernel
theorem dX9_lay_64 : decode cX9_lay 64 = .ok (.iload_n 3, 1) := by decide +kernel
theorem dX9_lay_65 : decode cX9_lay 65 = .ok (.iaload, 1) := by decide +kernel
theorem dX9_lay_66 : decode cX9_lay 66 = .ok (.ifCond .ge 7, 3) := by decide +kernel
theorem dX9_lay_69 : decode cX9_lay 69 = .ok (.ldc_w 291, 3) := by decide +kernel
theorem dX9_lay_72 : decode cX9_lay 72 = .ok (.ireturn, 1) := by decide +kernel
theorem dX9_lay_73 : decode cX9_lay 73 = .ok (.aload_n 0, 1) := by decide +kernel
theorem dX9_lay_74 : decode cX9_lay 74 = .ok (.getfield 28, 3) := by decide +kernel
theorem dX9_lay_77 : decode cX9_lay 77 = .ok (.iload_n 1, 1) := by decide +kernel
theorem dX9_lay_78 : decode cX9_lay 78 = .ok (.iaload, 1) := by decide +kernel
theorem dX9_lay_79 : decode cX9_lay 79 = .ok (.istore 5, 2) := by decide +kernel
theorem dX9_lay_81 : decode cX9_lay 81 = .ok (.aload_n 0, 1) := by decide +kernel
theorem dX9_lay_82 : decode cX9_lay 82 = .ok (.getfield 28, 3) := by decide +kernel
theorem dX9_lay_85 : decode cX9_lay 85 = .ok (.iload_n 1, 1) := by decide +kernel
theorem dX9_lay_86 : decode cX9_lay 86 = .ok (.iload_n 2, 1) := by decide +kernel
theorem dX9_lay_87 : decode cX9_lay 87 = .ok (.iastore, 1) := by decide +kernel
theorem dX9_lay_88 : decode cX9_lay 88 = .ok (.aload_n 0, 1) := by decide +kernel
theorem dX9_lay_89 : decode cX9_lay 89 = .ok (.getfield 31, 3) := by decide +kernel
theorem dX9_lay_92 : decode cX9_lay 92 = .ok (.iload_n 1, 1) := by decide +kernel
theorem dX9_lay_93 : decode cX9_lay 93 = .ok (.iload_n 2, 1) := by decide +kernel
theorem dX9_lay_94 : decode cX9_lay 94 = .ok (.iconst 1, 1) := by decide +kernel
theorem dX9_lay_95 : decode cX9_lay 95 = .ok (.if_icmp .ne 12, 3) := by decide +kernel
theorem dX9_lay_98 : decode cX9_lay 98 = .ok (.aload_n 0, 1) := by decide +kernel
theorem dX9_lay_99 : decode cX9_lay 99 = .ok (.iload_n 3, 1) := by decide +kernel
theorem dX9_lay_100 : decode cX9_lay 100 = .ok (.iconst 0, 1) := by decide +kernel
theorem dX9_lay_101 : decode cX9_lay 101 = .ok (.invokevirtual 70, 3) := by decide +kernel
theorem dX9_lay_104 : decode cX9_lay 104 = .ok (.goto 4, 3) := by decide +kernel
theorem dX9_lay_107 : decode cX9_lay 107 = .ok (.iload_n 3, 1) := by decide +kernel
theorem dX9_lay_108 : decode cX9_lay 108 = .ok (.iastore, 1) := by decide +kernel
theorem dX9_lay_109 : decode cX9_lay 109 = .ok (.aload_n 0, 1) := by decide +kernel
theorem dX9_lay_110 : decode cX9_lay 110 = .ok (.getfield 34, 3) := by decide +kernel
theorem dX9_lay_113 : decode cX9_lay 113 = .ok (.iload_n 1, 1) := by decide +kernel
theorem dX9_lay_114 : decode cX9_lay 114 = .ok (.iload_n 2, 1) := by decide +kernel
theorem dX9_lay_115 : decode cX9_lay 115 = .ok (.iconst 1, 1) := by decide +kernel
theorem dX9_lay_116 : decode cX9_lay 116 = .ok (.if_icmp .ne 11, 3) := by decide +kernel
theorem dX9_lay_119 : decode cX9_lay 119 = .ok (.aload_n 0, 1) := by decide +kernel
theorem dX9_lay_120 : decode cX9_lay 120 = .ok (.iload_n 3, 1) := by decide +kernel
theorem dX9_lay_121 : decode cX9_lay 121 = .ok (.invokevirtual 109, 3) := by decide +kernel
theorem dX9_lay_124 : decode cX9_lay 124 = .ok (.goto 4, 3) := by decide +kernel
theorem dX9_lay_127 : decode cX9_lay 127 = .ok (.iconst 0, 1) := by decide +kernel
theorem dX9_lay_128 : decode cX9_lay 128 = .ok (.iastore, 1) := by decide +kernel
theorem dX9_lay_129 : decode cX9_lay 129 = .ok (.iload_n 2, 1) := by decide +kernel
theorem dX9_lay_130 : decode cX9_lay 130 = .ok (.iconst 2, 1) := by decide +kernel
theorem dX9_lay_131 : decode cX9_lay 131 = .ok (.if_icmp .ne 55, 3) := by decide +kernel
theorem dX9_lay_134 : decode cX9_lay 134 = .ok (.aload_n 0, 1) := by decide +kernel
theorem dX9_lay_135 : decode cX9_lay 135 = .ok (.getfield 37, 3) := by decide +kernel
theorem dX9_lay_138 : decode cX9_lay 138 = .ok (.iload_n 1, 1) := by decide +kernel
theorem dX9_lay_139 : decode cX9_lay 139 = .ok (.aload_n 0, 1) := by decide +kernel
theorem dX9_lay_140 : decode cX9_lay 140 = .ok (.getfield 22, 3) := by decide +kernel
theorem dX9_lay_143 : decode cX9_lay 143 = .ok (.iload_n 3, 1) := by decide +kernel
theorem dX9_lay_144 : decode cX9_lay 144 = .ok (.iaload, 1) := by decide +kernel
theorem dX9_lay_145 : decode cX9_lay 145 = .ok (.iastore, 1) := by decide +kernel
theorem dX9_lay_146 : decode cX9_lay 146 = .ok (.iconst 0, 1) := by decide +kernel
theorem dX9_lay_147 : decode cX9_lay 147 = .ok (.istore 6, 2) := by decide +kernel
theorem dX9_lay_149 : decode cX9_lay 149 = .ok (.iload 6, 2) := by decide +kernel
theorem dX9_lay_151 : decode cX9_lay 151 = .ok (.bipush 24, 2) := by decide +kernel
theorem dX9_lay_153 : decode cX9_lay 153 = .ok (.if_icmp .ge 33, 3) := by decide +kernel
theorem dX9_lay_156 : decode cX9_lay 156 = .ok (.aload_n 0, 1) := by decide +kernel
theorem dX9_lay_157 : decode cX9_lay 157 = .ok (.getfield 40, 3) := by decide +kernel
theorem dX9_lay_160 : decode cX9_lay 160 = .ok (.bipush 24, 2) := by decide +kernel
theorem dX9_lay_162 : decode cX9_lay 162 = .ok (.iload_n 1, 1) := by decide +kernel
theorem dX9_lay_163 : decode cX9_lay 163 = .ok (.imul, 1) := by decide +kernel
theorem dX9_lay_164 : decode cX9_lay 164 = .ok (.iload 6, 2) := by decide +kernel
theorem dX9_lay_166 : decode cX9_lay 166 = .ok (.iadd, 1) := by decide +kernel
theorem dX9_lay_167 : decode cX9_lay 167 = .ok (.aload_n 0, 1) := by decide +kernel
theorem dX9_lay_168 : decode cX9_lay 168 = .ok (.getfield 25, 3) := by decide +kernel
theorem dX9_lay_171 : decode cX9_lay 171 = .ok (.bipush 24, 2) := by decide +kernel
theorem dX9_lay_173 : decode cX9_lay 173 = .ok (.iload_n 3, 1) := by decide +kernel
theorem dX9_lay_174 : decode cX9_lay 174 = .ok (.imul, 1) := by decide +kernel
theorem dX9_lay_175 : decode cX9_lay 175 = .ok (.iload 6, 2) := by decide +kernel
theorem dX9_lay_177 : decode cX9_lay 177 = .ok (.iadd, 1) := by decide +kernel
theorem dX9_lay_178 : decode cX9_lay 178 = .ok (.iaload, 1) := by decide +kernel
theorem dX9_lay_179 : decode cX9_lay 179 = .ok (.iastore, 1) := by decide +kernel
theorem dX9_lay_180 : decode cX9_lay 180 = .ok (.iinc 6 1, 3) := by decide +kernel
theorem dX9_lay_183 : decode cX9_lay 183 = .ok (.goto (-34), 3) := by decide +kernel
theorem dX9_lay_186 : decode cX9_lay 186 = .ok (.iload 5, 2) := by decide +kernel
theorem dX9_lay_188 : decode cX9_lay 188 = .ok (.ireturn, 1) := by decide +kernel
theorem dX9_ask_0 : decode cX9_ask 0 = .ok (.iload_n 1, 1) := by decide +kernel
theorem dX9_ask_1 : decode cX9_ask 1 = .ok (.invokestatic 299, 3) := by decide +kernel
theorem dX9_ask_4 : decode cX9_ask 4 = .ok (.ifCond .eq 15, 3) := by decide +kernel
theorem dX9_ask_7 : decode cX9_ask 7 = .ok (.iload_n 2, 1) := by decide +kernel
theorem dX9_ask_8 : decode cX9_ask 8 = .ok (.i2l, 1) := by decide +kernel
theorem dX9_ask_9 : decode cX9_ask 9 = .ok (.lconst 0, 1) := by decide +kernel
theorem dX9_ask_10 : decode cX9_ask 10 = .ok (.ldc2_w 94, 3) := by decide +kernel
theorem dX9_ask_13 : decode cX9_ask 13 = .ok (.invokestatic 65, 3) := by decide +kernel
theorem dX9_ask_16 : decode cX9_ask 16 = .ok (.ifCond .ne 6, 3) := by decide +kernel
theorem dX9_ask_19 : decode cX9_ask 19 = .ok (.ldc 98, 2) := by decide +kernel
theorem dX9_ask_21 : decode cX9_ask 21 = .ok (.ireturn, 1) := by decide +kernel
theorem dX9_ask_22 : decode cX9_ask 22 = .ok (.aload_n 0, 1) := by decide +kernel
theorem dX9_ask_23 : decode cX9_ask 23 = .ok (.getfield 28, 3) := by decide +kernel
theorem dX9_ask_26 : decode cX9_ask 26 = .ok (.iload_n 1, 1) := by decide +kernel
theorem dX9_ask_27 : decode cX9_ask 27 = .ok (.iaload, 1) := by decide +kernel
theorem dX9_ask_28 : decode cX9_ask 28 = .ok (.ifCond .ne 7, 3) := by decide +kernel
theorem dX9_ask_31 : decode cX9_ask 31 = .ok (.ldc_w 291, 3) := by decide +kernel
theorem dX9_ask_34 : decode cX9_ask 34 = .ok (.ireturn, 1) := by decide +kernel
theorem dX9_ask_35 : decode cX9_ask 35 = .ok (.aload_n 0, 1) := by decide +kernel
theorem dX9_ask_36 : decode cX9_ask 36 = .ok (.getfield 28, 3) := by decide +kernel
theorem dX9_ask_39 : decode cX9_ask 39 = .ok (.iload_n 1, 1) := by decide +kernel
theorem dX9_ask_40 : decode cX9_ask 40 = .ok (.iaload, 1) := by decide +kernel
theorem dX9_ask_41 : decode cX9_ask 41 = .ok (.iconst 1, 1) := by decide +kernel
theorem dX9_ask_42 : decode cX9_ask 42 = .ok (.if_icmp .ne 25, 3) := by decide +kernel
theorem dX9_ask_45 : decode cX9_ask 45 = .ok (.aload_n 0, 1) := by decide +kernel
theorem dX9_ask_46 : decode cX9_ask 46 = .ok (.getfield 31, 3) := by decide +kernel
theorem dX9_ask_49 : decode cX9_ask 49 = .ok (.iload_n 1, 1) := by decide +kernel
theorem dX9_ask_50 : decode cX9_ask 50 = .ok (.iaload, 1) := by decide +kernel
theorem dX9_ask_51 : decode cX9_ask 51 = .ok (.iload_n 2, 1) := by decide +kernel
theorem dX9_ask_52 : decode cX9_ask 52 = .ok (.invokestatic 115, 3) := by decide +kernel
theorem dX9_ask_55 : decode cX9_ask 55 = .ok (.ifCond .eq 12, 3) := by decide +kernel
theorem dX9_ask_58 : decode cX9_ask 58 = .ok (.aload_n 0, 1) := by decide +kernel
theorem dX9_ask_59 : decode cX9_ask 59 = .ok (.getfield 34, 3) := by decide +kernel
theorem dX9_ask_62 : decode cX9_ask 62 = .ok (.iload_n 1, 1) := by decide +kernel
theorem dX9_ask_63 : decode cX9_ask 63 = .ok (.iaload, 1) := by decide +kernel
theorem dX9_ask_64 : decode cX9_ask 64 = .ok (.goto 5, 3) := by decide +kernel
theorem dX9_ask_67 : decode cX9_ask 67 = .ok (.ldc 119, 2) := by decide +kernel
theorem dX9_ask_69 : decode cX9_ask 69 = .ok (.ireturn, 1) := by decide +kernel
theorem dX9_item_0 : decode cX9_item 0 = .ok (.iload_n 1, 1) := by decide +kernel
theorem dX9_item_1 : decode cX9_item 1 = .ok (.invokestatic 299, 3) := by decide +kernel
theorem dX9_item_4 : decode cX9_item 4 = .ok (.ifCond .ne 6, 3) := by decide +kernel
theorem dX9_item_7 : decode cX9_item 7 = .ok (.ldc 98, 2) := by decide +kernel
theorem dX9_item_9 : decode cX9_item 9 = .ok (.ireturn, 1) := by decide +kernel
theorem dX9_item_10 : decode cX9_item 10 = .ok (.aload_n 0, 1) := by decide +kernel
theorem dX9_item_11 : decode cX9_item 11 = .ok (.getfield 28, 3) := by decide +kernel
theorem dX9_item_14 : decode cX9_item 14 = .ok (.iload_n 1, 1) := by decide +kernel
theorem dX9_item_15 : decode cX9_item 15 = .ok (.iaload, 1) := by decide +kernel
theorem dX9_item_16 : decode cX9_item 16 = .ok (.iconst 2, 1) := by decide +kernel
theorem dX9_item_17 : decode cX9_item 17 = .ok (.if_icmp .eq 21, 3) := by decide +kernel
theorem dX9_item_20 : decode cX9_item 20 = .ok (.aload_n 0, 1) := by decide +kernel
theorem dX9_item_21 : decode cX9_item 21 = .ok (.getfield 28, 3) := by decide +kernel
theorem dX9_item_24 : decode cX9_item 24 = .ok (.iload_n 1, 1) := by decide +kernel
theorem dX9_item_25 : decode cX9_item 25 = .ok (.iaload, 1) := by decide +kernel
theorem dX9_item_26 : decode cX9_item 26 = .ok (.ifCond .ne 9, 3) := by decide +kernel
theorem dX9_item_29 : decode cX9_item 29 = .ok (.ldc_w 291, 3) := by decide +kernel
theorem dX9_item_32 : decode cX9_item 32 = .ok (.goto 5, 3) := by decide +kernel
theorem dX9_item_35 : decode cX9_item 35 = .ok (.ldc 119, 2) := by decide +kernel
theorem dX9_item_37 : decode cX9_item 37 = .ok (.ireturn, 1) := by decide +kernel
theorem dX9_item_38 : decode cX9_item 38 = .ok (.iload_n 2, 1) := by decide +kernel
theorem dX9_item_39 : decode cX9_item 39 = .ok (.i2l, 1) := by decide +kernel
theorem dX9_item_40 : decode cX9_item 40 = .ok (.lconst 0, 1) := by decide +kernel
theorem dX9_item_41 : decode cX9_item 41 = .ok (.aload_n 0, 1) := by decide +kernel
theorem dX9_item_42 : decode cX9_item 42 = .ok (.getfield 37, 3) := by decide +kernel
theorem dX9_item_45 : decode cX9_item 45 = .ok (.iload_n 1, 1) := by decide +kernel
theorem dX9_item_46 : decode cX9_item 46 = .ok (.iaload, 1) := by decide +kernel
theorem dX9_item_47 : decode cX9_item 47 = .ok (.iconst 1, 1) := by decide +kernel
theorem dX9_item_48 : decode cX9_item 48 = .ok (.isub, 1) := by decide +kernel
theorem dX9_item_49 : decode cX9_item 49 = .ok (.i2l, 1) := by decide +kernel
theorem dX9_item_50 : decode cX9_item 50 = .ok (.invokestatic 65, 3) := by decide +kernel
theorem dX9_item_53 : decode cX9_item 53 = .ok (.ifCond .ne 7, 3) := by decide +kernel
theorem dX9_item_56 : decode cX9_item 56 = .ok (.ldc_w 292, 3) := by decide +kernel
theorem dX9_item_59 : decode cX9_item 59 = .ok (.ireturn, 1) := by decide +kernel
theorem dX9_item_60 : decode cX9_item 60 = .ok (.aload_n 0, 1) := by decide +kernel
theorem dX9_item_61 : decode cX9_item 61 = .ok (.getfield 40, 3) := by decide +kernel
theorem dX9_item_64 : decode cX9_item 64 = .ok (.bipush 24, 2) := by decide +kernel
theorem dX9_item_66 : decode cX9_item 66 = .ok (.iload_n 1, 1) := by decide +kernel
theorem dX9_item_67 : decode cX9_item 67 = .ok (.imul, 1) := by decide +kernel
theorem dX9_item_68 : decode cX9_item 68 = .ok (.iload_n 2, 1) := by decide +kernel
theorem dX9_item_69 : decode cX9_item 69 = .ok (.iadd, 1) := by decide +kernel
theorem dX9_item_70 : decode cX9_item 70 = .ok (.iaload, 1) := by decide +kernel
theorem dX9_item_71 : decode cX9_item 71 = .ok (.istore_n 3, 1) := by decide +kernel
theorem dX9_item_72 : decode cX9_item 72 = .ok (.iload_n 3, 1) := by decide +kernel
theorem dX9_item_73 : decode cX9_item 73 = .ok (.ldc 64, 2) := by decide +kernel
theorem dX9_item_75 : decode cX9_item 75 = .ok (.if_icmp .ne 8, 3) := by decide +kernel
theorem dX9_item_78 : decode cX9_item 78 = .ok (.ldc 119, 2) := by decide +kernel
theorem dX9_item_80 : decode cX9_item 80 = .ok (.goto 4, 3) := by decide +kernel
theorem dX9_item_83 : decode cX9_item 83 = .ok (.iload_n 3, 1) := by decide +kernel
theorem dX9_item_84 : decode cX9_item 84 = .ok (.ireturn, 1) := by decide +kernel
theorem dX9_rest_0 : decode cX9_rest 0 = .ok (.iload_n 1, 1) := by decide +kernel
theorem dX9_rest_1 : decode cX9_rest 1 = .ok (.invokestatic 299, 3) := by decide +kernel
theorem dX9_rest_4 : decode cX9_rest 4 = .ok (.ifCond .ne 6, 3) := by decide +kernel
theorem dX9_rest_7 : decode cX9_rest 7 = .ok (.ldc 98, 2) := by decide +kernel
theorem dX9_rest_9 : decode cX9_rest 9 = .ok (.ireturn, 1) := by decide +kernel
theorem dX9_rest_10 : decode cX9_rest 10 = .ok (.aload_n 0, 1) := by decide +kernel
theorem dX9_rest_11 : decode cX9_rest 11 = .ok (.getfield 28, 3) := by decide +kernel
theorem dX9_rest_14 : decode cX9_rest 14 = .ok (.iload_n 1, 1) := by decide +kernel
theorem dX9_rest_15 : decode cX9_rest 15 = .ok (.iaload, 1) := by decide +kernel
theorem dX9_rest_16 : decode cX9_rest 16 = .ok (.iconst 3, 1) := by decide +kernel
theorem dX9_rest_17 : decode cX9_rest 17 = .ok (.if_icmp .eq 21, 3) := by decide +kernel
theorem dX9_rest_20 : decode cX9_rest 20 = .ok (.aload_n 0, 1) := by decide +kernel
theorem dX9_rest_21 : decode cX9_rest 21 = .ok (.getfield 28, 3) := by decide +kernel
theorem dX9_rest_24 : decode cX9_rest 24 = .ok (.iload_n 1, 1) := by decide +kernel
theorem dX9_rest_25 : decode cX9_rest 25 = .ok (.iaload, 1) := by decide +kernel
theorem dX9_rest_26 : decode cX9_rest 26 = .ok (.ifCond .ne 9, 3) := by decide +kernel
theorem dX9_rest_29 : decode cX9_rest 29 = .ok (.ldc_w 291, 3) := by decide +kernel
theorem dX9_rest_32 : decode cX9_rest 32 = .ok (.goto 5, 3) := by decide +kernel
theorem dX9_rest_35 : decode cX9_rest 35 = .ok (.ldc 119, 2) := by decide +kernel
theorem dX9_rest_37 : decode cX9_rest 37 = .ok (.ireturn, 1) := by decide +kernel
theorem dX9_rest_38 : decode cX9_rest 38 = .ok (.iload_n 2, 1) := by decide +kernel
theorem dX9_rest_39 : decode cX9_rest 39 = .ok (.ifCond .ne 8, 3) := by decide +kernel
theorem dX9_rest_42 : decode cX9_rest 42 = .ok (.ldc 177, 2) := by decide +kernel
theorem dX9_rest_44 : decode cX9_rest 44 = .ok (.goto 11, 3) := by decide +kernel
theorem dX9_rest_47 : decode cX9_rest 47 = .ok (.aload_n 0, 1) := by decide +kernel
theorem dX9_rest_48 : decode cX9_rest 48 = .ok (.getfield 31, 3) := by decide +kernel
theorem dX9_rest_51 : decode cX9_rest 51 = .ok (.iload_n 1, 1) := by decide +kernel
theorem dX9_rest_52 : decode cX9_rest 52 = .ok (.iaload, 1) := by decide +kernel
theorem dX9_rest_53 : decode cX9_rest 53 = .ok (.iload_n 2, 1) := by decide +kernel
theorem dX9_rest_54 : decode cX9_rest 54 = .ok (.irem, 1) := by decide +kernel
theorem dX9_rest_55 : decode cX9_rest 55 = .ok (.ireturn, 1) := by decide +kernel
theorem dX9_tell_0 : decode cX9_tell 0 = .ok (.aload_n 0, 1) := by decide +kernel
theorem dX9_tell_1 : decode cX9_tell 1 = .ok (.getfield 302, 3) := by decide +kernel
theorem dX9_tell_4 : decode cX9_tell 4 = .ok (.bipush 60, 2) := by decide +kernel
theorem dX9_tell_6 : decode cX9_tell 6 = .ok (.if_icmp .ne 6, 3) := by decide +kernel
theorem dX9_tell_9 : decode cX9_tell 9 = .ok (.ldc 164, 2) := by decide +kernel
theorem dX9_tell_11 : decode cX9_tell 11 = .ok (.ireturn, 1) := by decide +kernel
theorem dX9_tell_12 : decode cX9_tell 12 = .ok (.aload_n 0, 1) := by decide +kernel
theorem dX9_tell_13 : decode cX9_tell 13 = .ok (.getfield 58, 3) := by decide +kernel
theorem dX9_tell_16 : decode cX9_tell 16 = .ok (.aload_n 0, 1) := by decide +kernel
theorem dX9_tell_17 : decode cX9_tell 17 = .ok (.getfield 302, 3) := by decide +kernel
theorem dX9_tell_20 : decode cX9_tell 20 = .ok (.iload_n 1, 1) := by decide +kernel
theorem dX9_tell_21 : decode cX9_tell 21 = .ok (.iastore, 1) := by decide +kernel
theorem dX9_tell_22 : decode cX9_tell 22 = .ok (.aload_n 0, 1) := by decide +kernel
theorem dX9_tell_23 : decode cX9_tell 23 = .ok (.dup, 1) := by decide +kernel
theorem dX9_tell_24 : decode cX9_tell 24 = .ok (.getfield 302, 3) := by decide +kernel
theorem dX9_tell_27 : decode cX9_tell 27 = .ok (.iconst 1, 1) := by decide +kernel
theorem dX9_tell_28 : decode cX9_tell 28 = .ok (.iadd, 1) := by decide +kernel
theorem dX9_tell_29 : decode cX9_tell 29 = .ok (.putfield 302, 3) := by decide +kernel
theorem dX9_tell_32 : decode cX9_tell 32 = .ok (.aload_n 0, 1) := by decide +kernel
theorem dX9_tell_33 : decode cX9_tell 33 = .ok (.getfield 302, 3) := by decide +kernel
theorem dX9_tell_36 : decode cX9_tell 36 = .ok (.ireturn, 1) := by decide +kernel
theorem dX9_setAside_0 : decode cX9_setAside 0 = .ok (.iconst 0, 1) := by decide +kernel
theorem dX9_setAside_1 : decode cX9_setAside 1 = .ok (.istore_n 3, 1) := by decide +kernel
theorem dX9_setAside_2 : decode cX9_setAside 2 = .ok (.iload_n 3, 1) := by decide +kernel
theorem dX9_setAside_3 : decode cX9_setAside 3 = .ok (.sipush 2947, 3) := by decide +kernel
theorem dX9_setAside_6 : decode cX9_setAside 6 = .ok (.if_icmp .ge 15, 3) := by decide +kernel
theorem dX9_setAside_9 : decode cX9_setAside 9 = .ok (.aload_n 2, 1) := by decide +kernel
theorem dX9_setAside_10 : decode cX9_setAside 10 = .ok (.iload_n 3, 1) := by decide +kernel
theorem dX9_setAside_11 : decode cX9_setAside 11 = .ok (.aload_n 1, 1) := by decide +kernel
theorem dX9_setAside_12 : decode cX9_setAside 12 = .ok (.iload_n 3, 1) := by decide +kernel
theorem dX9_setAside_13 : decode cX9_setAside 13 = .ok (.iaload, 1) := by decide +kernel
theorem dX9_setAside_14 : decode cX9_setAside 14 = .ok (.iastore, 1) := by decide +kernel
theorem dX9_setAside_15 : decode cX9_setAside 15 = .ok (.iinc 3 1, 3) := by decide +kernel
theorem dX9_setAside_18 : decode cX9_setAside 18 = .ok (.goto (-16), 3) := by decide +kernel
theorem dX9_setAside_21 : decode cX9_setAside 21 = .ok (.return_, 1) := by decide +kernel
theorem dX9_check_0 : decode cX9_check 0 = .ok (.aload_n 0, 1) := by decide +kernel
theorem dX9_check_1 : decode cX9_check 1 = .ok (.getfield 302, 3) := by decide +kernel
theorem dX9_check_4 : decode cX9_check 4 = .ok (.istore_n 2, 1) := by decide +kernel
theorem dX9_check_5 : decode cX9_check 5 = .ok (.aload_n 0, 1) := by decide +kernel
theorem dX9_check_6 : decode cX9_check 6 = .ok (.iconst 0, 1) := by decide +kernel
theorem dX9_check_7 : decode cX9_check 7 = .ok (.putfield 302, 3) := by decide +kernel
theorem dX9_check_10 : decode cX9_check 10 = .ok (.iload_n 1, 1) := by decide +kernel
theorem dX9_check_11 : decode cX9_check 11 = .ok (.i2l, 1) := by decide +kernel
theorem dX9_check_12 : decode cX9_check 12 = .ok (.lconst 1, 1) := by decide +kernel
theorem dX9_check_13 : decode cX9_check 13 = .ok (.ldc2_w 305, 3) := by decide +kernel
theorem dX9_check_16 : decode cX9_check 16 = .ok (.invokestatic 65, 3) := by decide +kernel
theorem dX9_check_19 : decode cX9_check 19 = .ok (.ifCond .ne 6, 3) := by decide +kernel
theorem dX9_check_22 : decode cX9_check 22 = .ok (.ldc 98, 2) := by decide +kernel
theorem dX9_check_24 : decode cX9_check 24 = .ok (.ireturn, 1) := by decide +kernel
theorem dX9_check_25 : decode cX9_check 25 = .ok (.aload_n 0, 1) := by decide +kernel
theorem dX9_check_26 : decode cX9_check 26 = .ok (.getfield 307, 3) := by decide +kernel
theorem dX9_check_29 : decode cX9_check 29 = .ok (.ifCond .ne 6, 3) := by decide +kernel
theorem dX9_check_32 : decode cX9_check 32 = .ok (.ldc 177, 2) := by decide +kernel
theorem dX9_check_34 : decode cX9_check 34 = .ok (.ireturn, 1) := by decide +kernel
theorem dX9_check_35 : decode cX9_check 35 = .ok (.aload_n 0, 1) := by decide +kernel
theorem dX9_check_36 : decode cX9_check 36 = .ok (.aload_n 0, 1) := by decide +kernel
theorem dX9_check_37 : decode cX9_check 37 = .ok (.getfield 7, 3) := by decide +kernel
theorem dX9_check_40 : decode cX9_check 40 = .ok (.aload_n 0, 1) := by decide +kernel
theorem dX9_check_41 : decode cX9_check 41 = .ok (.getfield 16, 3) := by decide +kernel
theorem dX9_check_44 : decode cX9_check 44 = .ok (.invokevirtual 311, 3) := by decide +kernel
theorem dX9_check_47 : decode cX9_check 47 = .ok (.aload_n 0, 1) := by decide +kernel
theorem dX9_check_48 : decode cX9_check 48 = .ok (.aload_n 0, 1) := by decide +kernel
theorem dX9_check_49 : decode cX9_check 49 = .ok (.getfield 13, 3) := by decide +kernel
theorem dX9_check_52 : decode cX9_check 52 = .ok (.aload_n 0, 1) := by decide +kernel
theorem dX9_check_53 : decode cX9_check 53 = .ok (.getfield 7, 3) := by decide +kernel
theorem dX9_check_56 : decode cX9_check 56 = .ok (.invokevirtual 311, 3) := by decide +kernel
theorem dX9_check_59 : decode cX9_check 59 = .ok (.iconst 0, 1) := by decide +kernel
theorem dX9_check_60 : decode cX9_check 60 = .ok (.istore_n 3, 1) := by decide +kernel
theorem dX9_check_61 : decode cX9_check 61 = .ok (.iconst 0, 1) := by decide +kernel
theorem dX9_check_62 : decode cX9_check 62 = .ok (.istore 4, 2) := by decide +kernel
theorem dX9_check_64 : decode cX9_check 64 = .ok (.iload 4, 2) := by decide +kernel
theorem dX9_check_66 : decode cX9_check 66 = .ok (.iload_n 1, 1) := by decide +kernel
theorem dX9_check_67 : decode cX9_check 67 = .ok (.if_icmp .ge 54, 3) := by decide +kernel
theorem dX9_check_70 : decode cX9_check 70 = .ok (.aload_n 0, 1) := by decide +kernel
theorem dX9_check_71 : decode cX9_check 71 = .ok (.getfield 7, 3) := by decide +kernel
theorem dX9_check_74 : decode cX9_check 74 = .ok (.iconst 2, 1) := by decide +kernel
theorem dX9_check_75 : decode cX9_check 75 = .ok (.iaload, 1) := by decide +kernel
theorem dX9_check_76 : decode cX9_check 76 = .ok (.sipush 9999, 3) := by decide +kernel
theorem dX9_check_79 : decode cX9_check 79 = .ok (.if_icmp .ge 42, 3) := by decide +kernel
theorem dX9_check_82 : decode cX9_check 82 = .ok (.aload_n 0, 1) := by decide +kernel
theorem dX9_check_83 : decode cX9_check 83 = .ok (.getfield 61, 3) := by decide +kernel
theorem dX9_check_86 : decode cX9_check 86 = .ok (.iload_n 3, 1) := by decide +kernel
theorem dX9_check_87 : decode cX9_check 87 = .ok (.aload_n 0, 1) := by decide +kernel
theorem dX9_check_88 : decode cX9_check 88 = .ok (.iconst 0, 1) := by decide +kernel
theorem dX9_check_89 : decode cX9_check 89 = .ok (.invokevirtual 131, 3) := by decide +kernel
theorem dX9_check_92 : decode cX9_check 92 = .ok (.invokestatic 134, 3) := by decide +kernel
theorem dX9_check_95 : decode cX9_check 95 = .ok (.iastore, 1) := by decide +kernel
theorem dX9_check_96 : decode cX9_check 96 = .ok (.aload_n 0, 1) := by decide +kernel
theorem dX9_check_97 : decode cX9_check 97 = .ok (.invokevirtual 181, 3) := by decide +kernel
theorem dX9_check_100 : decode cX9_check 100 = .ok (.aload_n 0, 1) := by decide +kernel
theorem dX9_check_101 : decode cX9_check 101 = .ok (.getfield 61, 3) := by decide +kernel
theorem dX9_check_104 : decode cX9_check 104 = .ok (.iload_n 3, 1) := by decide +kernel
theorem dX9_check_105 : decode cX9_check 105 = .ok (.iconst 1, 1) := by decide +kernel
theorem dX9_check_106 : decode cX9_check 106 = .ok (.iadd, 1) := by decide +kernel
theorem dX9_check_107 : decode cX9_check 107 = .ok (.aload_n 0, 1) := by decide +kernel
theorem dX9_check_108 : decode cX9_check 108 = .ok (.invokevirtual 315, 3) := by decide +kernel
theorem dX9_check_111 : decode cX9_check 111 = .ok (.iastore, 1) := by decide +kernel
theorem dX9_check_112 : decode cX9_check 112 = .ok (.iinc 3 2, 3) := by decide +kernel
theorem dX9_check_115 : decode cX9_check 115 = .ok (.iinc 4 1, 3) := by decide +kernel
theorem dX9_check_118 : decode cX9_check 118 = .ok (.goto (-54), 3) := by decide +kernel
theorem dX9_check_121 : decode cX9_check 121 = .ok (.aload_n 0, 1) := by decide +kernel
theorem dX9_check_122 : decode cX9_check 122 = .ok (.aload_n 0, 1) := by decide +kernel
theorem dX9_check_123 : decode cX9_check 123 = .ok (.getfield 16, 3) := by decide +kernel
theorem dX9_check_126 : decode cX9_check 126 = .ok (.aload_n 0, 1) := by decide +kernel
theorem dX9_check_127 : decode cX9_check 127 = .ok (.getfield 7, 3) := by decide +kernel
theorem dX9_check_130 : decode cX9_check 130 = .ok (.invokevirtual 311, 3) := by decide +kernel
theorem dX9_check_133 : decode cX9_check 133 = .ok (.iconst 0, 1) := by decide +kernel
theorem dX9_check_134 : decode cX9_check 134 = .ok (.istore 4, 2) := by decide +kernel
theorem dX9_check_136 : decode cX9_check 136 = .ok (.iload 4, 2) := by decide +kernel
theorem dX9_check_138 : decode cX9_check 138 = .ok (.iload_n 2, 1) := by decide +kernel
theorem dX9_check_139 : decode cX9_check 139 = .ok (.if_icmp .ge 32, 3) := by decide +kernel
theorem dX9_check_142 : decode cX9_check 142 = .ok (.iload 4, 2) := by decide +kernel
theorem dX9_check_144 : decode cX9_check 144 = .ok (.iload_n 3, 1) := by decide +kernel
theorem dX9_check_145 : decode cX9_check 145 = .ok (.if_icmp .ge 26, 3) := by decide +kernel
theorem dX9_check_148 : decode cX9_check 148 = .ok (.aload_n 0, 1) := by decide +kernel
theorem dX9_check_149 : decode cX9_check 149 = .ok (.getfield 58, 3) := by decide +kernel
theorem dX9_check_152 : decode cX9_check 152 = .ok (.iload 4, 2) := by decide +kernel
theorem dX9_check_154 : decode cX9_check 154 = .ok (.iaload, 1) := by decide +kernel
theorem dX9_check_155 : decode cX9_check 155 = .ok (.aload_n 0, 1) := by decide +kernel
theorem dX9_check_156 : decode cX9_check 156 = .ok (.getfield 61, 3) := by decide +kernel
theorem dX9_check_159 : decode cX9_check 159 = .ok (.iload 4, 2) := by decide +kernel
theorem dX9_check_161 : decode cX9_check 161 = .ok (.iaload, 1) := by decide +kernel
theorem dX9_check_162 : decode cX9_check 162 = .ok (.if_icmp .ne 9, 3) := by decide +kernel
theorem dX9_check_165 : decode cX9_check 165 = .ok (.iinc 4 1, 3) := by decide +kernel
theorem dX9_check_168 : decode cX9_check 168 = .ok (.goto (-32), 3) := by decide +kernel
theorem dX9_check_171 : decode cX9_check 171 = .ok (.iload 4, 2) := by decide +kernel
theorem dX9_check_173 : decode cX9_check 173 = .ok (.iload_n 2, 1) := by decide +kernel
theorem dX9_check_174 : decode cX9_check 174 = .ok (.if_icmp .ne 13, 3) := by decide +kernel
theorem dX9_check_177 : decode cX9_check 177 = .ok (.iload 4, 2) := by decide +kernel
theorem dX9_check_179 : decode cX9_check 179 = .ok (.iload_n 3, 1) := by decide +kernel
theorem dX9_check_180 : decode cX9_check 180 = .ok (.if_icmp .ne 7, 3) := by decide +kernel
theorem dX9_check_183 : decode cX9_check 183 = .ok (.iconst 0, 1) := by decide +kernel
theorem dX9_check_184 : decode cX9_check 184 = .ok (.goto 7, 3) := by decide +kernel
theorem dX9_check_187 : decode cX9_check 187 = .ok (.iconst 1, 1) := by decide +kernel
theorem dX9_check_188 : decode cX9_check 188 = .ok (.iload 4, 2) := by decide +kernel
theorem dX9_check_190 : decode cX9_check 190 = .ok (.iadd, 1) := by decide +kernel
theorem dX9_check_191 : decode cX9_check 191 = .ok (.ireturn, 1) := by decide +kernel
theorem dX9_keep_0 : decode cX9_keep 0 = .ok (.aload_n 0, 1) := by decide +kernel
theorem dX9_keep_1 : decode cX9_keep 1 = .ok (.iconst 1, 1) := by decide +kernel
theorem dX9_keep_2 : decode cX9_keep 2 = .ok (.putfield 307, 3) := by decide +kernel
theorem dX9_keep_5 : decode cX9_keep 5 = .ok (.aload_n 0, 1) := by decide +kernel
theorem dX9_keep_6 : decode cX9_keep 6 = .ok (.aload_n 0, 1) := by decide +kernel
theorem dX9_keep_7 : decode cX9_keep 7 = .ok (.getfield 7, 3) := by decide +kernel
theorem dX9_keep_10 : decode cX9_keep 10 = .ok (.aload_n 0, 1) := by decide +kernel
theorem dX9_keep_11 : decode cX9_keep 11 = .ok (.getfield 13, 3) := by decide +kernel
theorem dX9_keep_14 : decode cX9_keep 14 = .ok (.invokevirtual 311, 3) := by decide +kernel
theorem dX9_keep_17 : decode cX9_keep 17 = .ok (.aload_n 0, 1) := by decide +kernel
theorem dX9_keep_18 : decode cX9_keep 18 = .ok (.getfield 7, 3) := by decide +kernel
theorem dX9_keep_21 : decode cX9_keep 21 = .ok (.iconst 0, 1) := by decide +kernel
theorem dX9_keep_22 : decode cX9_keep 22 = .ok (.iaload, 1) := by decide +kernel
theorem dX9_keep_23 : decode cX9_keep 23 = .ok (.ireturn, 1) := by decide +kernel
theorem dX9_back_0 : decode cX9_back 0 = .ok (.aload_n 0, 1) := by decide +kernel
theorem dX9_back_1 : decode cX9_back 1 = .ok (.getfield 307, 3) := by decide +kernel
theorem dX9_back_4 : decode cX9_back 4 = .ok (.ifCond .ne 6, 3) := by decide +kernel
theorem dX9_back_7 : decode cX9_back 7 = .ok (.ldc 177, 2) := by decide +kernel
theorem dX9_back_9 : decode cX9_back 9 = .ok (.ireturn, 1) := by decide +kernel
theorem dX9_back_10 : decode cX9_back 10 = .ok (.aload_n 0, 1) := by decide +kernel
theorem dX9_back_11 : decode cX9_back 11 = .ok (.aload_n 0, 1) := by decide +kernel
theorem dX9_back_12 : decode cX9_back 12 = .ok (.getfield 13, 3) := by decide +kernel
theorem dX9_back_15 : decode cX9_back 15 = .ok (.aload_n 0, 1) := by decide +kernel
theorem dX9_back_16 : decode cX9_back 16 = .ok (.getfield 7, 3) := by decide +kernel
theorem dX9_back_19 : decode cX9_back 19 = .ok (.invokevirtual 311, 3) := by decide +kernel
theorem dX9_back_22 : decode cX9_back 22 = .ok (.aload_n 0, 1) := by decide +kernel
theorem dX9_back_23 : decode cX9_back 23 = .ok (.getfield 7, 3) := by decide +kernel
theorem dX9_back_26 : decode cX9_back 26 = .ok (.iconst 0, 1) := by decide +kernel
theorem dX9_back_27 : decode cX9_back 27 = .ok (.iaload, 1) := by decide +kernel
theorem dX9_back_28 : decode cX9_back 28 = .ok (.ireturn, 1) := by decide +kernel
theorem dX9_count_0 : decode cX9_count 0 = .ok (.iload_n 1, 1) := by decide +kernel
theorem dX9_count_1 : decode cX9_count 1 = .ok (.tableswitch 118 0 9 #[55, 62, 69, 74, 81, 89, 94, 101, 106, 111], 55) := by decide +kernel
theorem dX9_count_56 : decode cX9_count 56 = .ok (.aload_n 0, 1) := by decide +kernel
theorem dX9_count_57 : decode cX9_count 57 = .ok (.getfield 7, 3) := by decide +kernel
theorem dX9_count_60 : decode cX9_count 60 = .ok (.iconst 2, 1) := by decide +kernel
theorem dX9_count_61 : decode cX9_count 61 = .ok (.iaload, 1) := by decide +kernel
theorem dX9_count_62 : decode cX9_count 62 = .ok (.ireturn, 1) := by decide +kernel
theorem dX9_count_63 : decode cX9_count 63 = .ok (.aload_n 0, 1) := by decide +kernel
theorem dX9_count_64 : decode cX9_count 64 = .ok (.getfield 7, 3) := by decide +kernel
theorem dX9_count_67 : decode cX9_count 67 = .ok (.iconst 0, 1) := by decide +kernel
theorem dX9_count_68 : decode cX9_count 68 = .ok (.iaload, 1) := by decide +kernel
theorem dX9_count_69 : decode cX9_count 69 = .ok (.ireturn, 1) := by decide +kernel
theorem dX9_count_70 : decode cX9_count 70 = .ok (.aload_n 0, 1) := by decide +kernel
theorem dX9_count_71 : decode cX9_count 71 = .ok (.invokevirtual 315, 3) := by decide +kernel
theorem dX9_count_74 : decode cX9_count 74 = .ok (.ireturn, 1) := by decide +kernel
theorem dX9_count_75 : decode cX9_count 75 = .ok (.aload_n 0, 1) := by decide +kernel
theorem dX9_count_76 : decode cX9_count 76 = .ok (.getfield 7, 3) := by decide +kernel
theorem dX9_count_79 : decode cX9_count 79 = .ok (.iconst 3, 1) := by decide +kernel
theorem dX9_count_80 : decode cX9_count 80 = .ok (.iaload, 1) := by decide +kernel
theorem dX9_count_81 : decode cX9_count 81 = .ok (.ireturn, 1) := by decide +kernel
theorem dX9_count_82 : decode cX9_count 82 = .ok (.aload_n 0, 1) := by decide +kernel
theorem dX9_count_83 : decode cX9_count 83 = .ok (.getfield 7, 3) := by decide +kernel
theorem dX9_count_86 : decode cX9_count 86 = .ok (.bipush 8, 2) := by decide +kernel
theorem dX9_count_88 : decode cX9_count 88 = .ok (.iaload, 1) := by decide +kernel
theorem dX9_count_89 : decode cX9_count 89 = .ok (.ireturn, 1) := by decide +kernel
theorem dX9_count_90 : decode cX9_count 90 = .ok (.aload_n 0, 1) := by decide +kernel
theorem dX9_count_91 : decode cX9_count 91 = .ok (.invokevirtual 174, 3) := by decide +kernel
theorem dX9_count_94 : decode cX9_count 94 = .ok (.ireturn, 1) := by decide +kernel
theorem dX9_count_95 : decode cX9_count 95 = .ok (.aload_n 0, 1) := by decide +kernel
theorem dX9_count_96 : decode cX9_count 96 = .ok (.getfield 7, 3) := by decide +kernel
theorem dX9_count_99 : decode cX9_count 99 = .ok (.iconst 1, 1) := by decide +kernel
theorem dX9_count_100 : decode cX9_count 100 = .ok (.iaload, 1) := by decide +kernel
theorem dX9_count_101 : decode cX9_count 101 = .ok (.ireturn, 1) := by decide +kernel
theorem dX9_count_102 : decode cX9_count 102 = .ok (.aload_n 0, 1) := by decide +kernel
theorem dX9_count_103 : decode cX9_count 103 = .ok (.getfield 302, 3) := by decide +kernel
theorem dX9_count_106 : decode cX9_count 106 = .ok (.ireturn, 1) := by decide +kernel
theorem dX9_count_107 : decode cX9_count 107 = .ok (.aload_n 0, 1) := by decide +kernel
theorem dX9_count_108 : decode cX9_count 108 = .ok (.getfield 184, 3) := by decide +kernel
theorem dX9_count_111 : decode cX9_count 111 = .ok (.ireturn, 1) := by decide +kernel
theorem dX9_count_112 : decode cX9_count 112 = .ok (.aload_n 0, 1) := by decide +kernel
theorem dX9_count_113 : decode cX9_count 113 = .ok (.getfield 7, 3) := by decide +kernel
theorem dX9_count_116 : decode cX9_count 116 = .ok (.iconst 4, 1) := by decide +kernel
theorem dX9_count_117 : decode cX9_count 117 = .ok (.iaload, 1) := by decide +kernel
theorem dX9_count_118 : decode cX9_count 118 = .ok (.ireturn, 1) := by decide +kernel
theorem dX9_count_119 : decode cX9_count 119 = .ok (.ldc 98, 2) := by decide +kernel
theorem dX9_count_121 : decode cX9_count 121 = .ok (.ireturn, 1) := by decide +kernel
