theorem dd_Model_corners_150 : decode bb_Model_corners 150 = .ok (.iload 4, 2) := by decide +kernel
theorem dd_Model_corners_152 : decode bb_Model_corners 152 = .ok (.iload_n 3, 1) := by decide +kernel
theorem dd_Model_corners_153 : decode bb_Model_corners 153 = .ok (.if_icmp .ne 15, 3) := by decide +kernel
theorem dd_Model_corners_156 : decode bb_Model_corners 156 = .ok (.aload_n 0, 1) := by decide +kernel
theorem dd_Model_corners_157 : decode bb_Model_corners 157 = .ok (.getfield 49, 3) := by decide +kernel
theorem dd_Model_corners_160 : decode bb_Model_corners 160 = .ok (.iload 4, 2) := by decide +kernel
theorem dd_Model_corners_162 : decode bb_Model_corners 162 = .ok (.iaload, 1) := by decide +kernel
theorem dd_Model_corners_163 : decode bb_Model_corners 163 = .ok (.iconst 1, 1) := by decide +kernel
theorem dd_Model_corners_164 : decode bb_Model_corners 164 = .ok (.iadd, 1) := by decide +kernel
theorem dd_Model_corners_165 : decode bb_Model_corners 165 = .ok (.goto 14, 3) := by decide +kernel
theorem dd_Model_corners_168 : decode bb_Model_corners 168 = .ok (.aload_n 0, 1) := by decide +kernel
theorem dd_Model_corners_169 : decode bb_Model_corners 169 = .ok (.getfield 49, 3) := by decide +kernel
theorem dd_Model_corners_172 : decode bb_Model_corners 172 = .ok (.iload 4, 2) := by decide +kernel
theorem dd_Model_corners_174 : decode bb_Model_corners 174 = .ok (.iconst 1, 1) := by decide +kernel
theorem dd_Model_corners_175 : decode bb_Model_corners 175 = .ok (.isub, 1) := by decide +kernel
theorem dd_Model_corners_176 : decode bb_Model_corners 176 = .ok (.iaload, 1) := by decide +kernel
theorem dd_Model_corners_177 : decode bb_Model_corners 177 = .ok (.iconst 1, 1) := by decide +kernel
theorem dd_Model_corners_178 : decode bb_Model_corners 178 = .ok (.iadd, 1) := by decide +kernel
theorem dd_Model_corners_179 : decode bb_Model_corners 179 = .ok (.iastore, 1) := by decide +kernel
theorem dd_Model_corners_180 : decode bb_Model_corners 180 = .ok (.iinc 4 1, 3) := by decide +kernel
theorem dd_Model_corners_183 : decode bb_Model_corners 183 = .ok (.goto (-52), 3) := by decide +kernel
theorem dd_Model_corners_186 : decode bb_Model_corners 186 = .ok (.goto (-114), 3) := by decide +kernel
theorem dd_Model_corners_189 : decode bb_Model_corners 189 = .ok (.return_, 1) := by decide +kernel
theorem dd_Model_solve_0 : decode bb_Model_solve 0 = .ok (.aload_n 0, 1) := by decide +kernel
theorem dd_Model_solve_1 : decode bb_Model_solve 1 = .ok (.iconst 0, 1) := by decide +kernel
theorem dd_Model_solve_2 : decode bb_Model_solve 2 = .ok (.putfield 76, 3) := by decide +kernel
theorem dd_Model_solve_5 : decode bb_Model_solve 5 = .ok (.aload_n 0, 1) := by decide +kernel
theorem dd_Model_solve_6 : decode bb_Model_solve 6 = .ok (.iload_n 1, 1) := by decide +kernel
theorem dd_Model_solve_7 : decode bb_Model_solve 7 = .ok (.ifCond .eq 7, 3) := by decide +kernel
theorem dd_Model_solve_10 : decode bb_Model_solve 10 = .ok (.iconst 2, 1) := by decide +kernel
theorem dd_Model_solve_11 : decode bb_Model_solve 11 = .ok (.goto 4, 3) := by decide +kernel
theorem dd_Model_solve_14 : decode bb_Model_solve 14 = .ok (.iconst 1, 1) := by decide +kernel
theorem dd_Model_solve_15 : decode bb_Model_solve 15 = .ok (.putfield 86, 3) := by decide +kernel
theorem dd_Model_solve_18 : decode bb_Model_solve 18 = .ok (.aload_n 0, 1) := by decide +kernel
theorem dd_Model_solve_19 : decode bb_Model_solve 19 = .ok (.iconst 0, 1) := by decide +kernel
theorem dd_Model_solve_20 : decode bb_Model_solve 20 = .ok (.putfield 107, 3) := by decide +kernel
theorem dd_Model_solve_23 : decode bb_Model_solve 23 = .ok (.aload_n 0, 1) := by decide +kernel
theorem dd_Model_solve_24 : decode bb_Model_solve 24 = .ok (.iconst 0, 1) := by decide +kernel
theorem dd_Model_solve_25 : decode bb_Model_solve 25 = .ok (.putfield 111, 3) := by decide +kernel
theorem dd_Model_solve_28 : decode bb_Model_solve 28 = .ok (.iconst 0, 1) := by decide +kernel
theorem dd_Model_solve_29 : decode bb_Model_solve 29 = .ok (.istore_n 2, 1) := by decide +kernel
theorem dd_Model_solve_30 : decode bb_Model_solve 30 = .ok (.iload_n 2, 1) := by decide +kernel
theorem dd_Model_solve_31 : decode bb_Model_solve 31 = .ok (.aload_n 0, 1) := by decide +kernel
theorem dd_Model_solve_32 : decode bb_Model_solve 32 = .ok (.getfield 7, 3) := by decide +kernel
theorem dd_Model_solve_35 : decode bb_Model_solve 35 = .ok (.if_icmp .ge 42, 3) := by decide +kernel
theorem dd_Model_solve_38 : decode bb_Model_solve 38 = .ok (.iload_n 1, 1) := by decide +kernel
theorem dd_Model_solve_39 : decode bb_Model_solve 39 = .ok (.ifCond .ne 12, 3) := by decide +kernel
theorem dd_Model_solve_42 : decode bb_Model_solve 42 = .ok (.aload_n 0, 1) := by decide +kernel
theorem dd_Model_solve_43 : decode bb_Model_solve 43 = .ok (.getfield 20, 3) := by decide +kernel
theorem dd_Model_solve_46 : decode bb_Model_solve 46 = .ok (.iload_n 2, 1) := by decide +kernel
theorem dd_Model_solve_47 : decode bb_Model_solve 47 = .ok (.baload, 1) := by decide +kernel
theorem dd_Model_solve_48 : decode bb_Model_solve 48 = .ok (.ifCond .ne 23, 3) := by decide +kernel
theorem dd_Model_solve_51 : decode bb_Model_solve 51 = .ok (.aload_n 0, 1) := by decide +kernel
theorem dd_Model_solve_52 : decode bb_Model_solve 52 = .ok (.getfield 40, 3) := by decide +kernel
theorem dd_Model_solve_55 : decode bb_Model_solve 55 = .ok (.aload_n 0, 1) := by decide +kernel
theorem dd_Model_solve_56 : decode bb_Model_solve 56 = .ok (.getfield 111, 3) := by decide +kernel
theorem dd_Model_solve_59 : decode bb_Model_solve 59 = .ok (.iload_n 2, 1) := by decide +kernel
theorem dd_Model_solve_60 : decode bb_Model_solve 60 = .ok (.iastore, 1) := by decide +kernel
theorem dd_Model_solve_61 : decode bb_Model_solve 61 = .ok (.aload_n 0, 1) := by decide +kernel
theorem dd_Model_solve_62 : decode bb_Model_solve 62 = .ok (.dup, 1) := by decide +kernel
theorem dd_Model_solve_63 : decode bb_Model_solve 63 = .ok (.getfield 111, 3) := by decide +kernel
theorem dd_Model_solve_66 : decode bb_Model_solve 66 = .ok (.iconst 1, 1) := by decide +kernel
theorem dd_Model_solve_67 : decode bb_Model_solve 67 = .ok (.iadd, 1) := by decide +kernel
theorem dd_Model_solve_68 : decode bb_Model_solve 68 = .ok (.putfield 111, 3) := by decide +kernel
theorem dd_Model_solve_71 : decode bb_Model_solve 71 = .ok (.iinc 2 1, 3) := by decide +kernel
theorem dd_Model_solve_74 : decode bb_Model_solve 74 = .ok (.goto (-44), 3) := by decide +kernel
theorem dd_Model_solve_77 : decode bb_Model_solve 77 = .ok (.iconst 0, 1) := by decide +kernel
theorem dd_Model_solve_78 : decode bb_Model_solve 78 = .ok (.istore_n 2, 1) := by decide +kernel
theorem dd_Model_solve_79 : decode bb_Model_solve 79 = .ok (.iload_n 2, 1) := by decide +kernel
theorem dd_Model_solve_80 : decode bb_Model_solve 80 = .ok (.iconst 4, 1) := by decide +kernel
theorem dd_Model_solve_81 : decode bb_Model_solve 81 = .ok (.if_icmp .ge 57, 3) := by decide +kernel
theorem dd_Model_solve_84 : decode bb_Model_solve 84 = .ok (.iload_n 2, 1) := by decide +kernel
theorem dd_Model_solve_85 : decode bb_Model_solve 85 = .ok (.aload_n 0, 1) := by decide +kernel
theorem dd_Model_solve_86 : decode bb_Model_solve 86 = .ok (.getfield 7, 3) := by decide +kernel
theorem dd_Model_solve_89 : decode bb_Model_solve 89 = .ok (.if_icmp .ge 20, 3) := by decide +kernel
theorem dd_Model_solve_92 : decode bb_Model_solve 92 = .ok (.iload_n 1, 1) := by decide +kernel
theorem dd_Model_solve_93 : decode bb_Model_solve 93 = .ok (.ifCond .ne 16, 3) := by decide +kernel
theorem dd_Model_solve_96 : decode bb_Model_solve 96 = .ok (.aload_n 0, 1) := by decide +kernel
theorem dd_Model_solve_97 : decode bb_Model_solve 97 = .ok (.getfield 20, 3) := by decide +kernel
theorem dd_Model_solve_100 : decode bb_Model_solve 100 = .ok (.iload_n 2, 1) := by decide +kernel
theorem dd_Model_solve_101 : decode bb_Model_solve 101 = .ok (.baload, 1) := by decide +kernel
theorem dd_Model_solve_102 : decode bb_Model_solve 102 = .ok (.ifCond .eq 7, 3) := by decide +kernel
theorem dd_Model_solve_105 : decode bb_Model_solve 105 = .ok (.iconst 1, 1) := by decide +kernel
theorem dd_Model_solve_106 : decode bb_Model_solve 106 = .ok (.goto 4, 3) := by decide +kernel
theorem dd_Model_solve_109 : decode bb_Model_solve 109 = .ok (.iconst 0, 1) := by decide +kernel
theorem dd_Model_solve_110 : decode bb_Model_solve 110 = .ok (.istore_n 3, 1) := by decide +kernel
theorem dd_Model_solve_111 : decode bb_Model_solve 111 = .ok (.aload_n 0, 1) := by decide +kernel
theorem dd_Model_solve_112 : decode bb_Model_solve 112 = .ok (.getfield 73, 3) := by decide +kernel
theorem dd_Model_solve_115 : decode bb_Model_solve 115 = .ok (.iload_n 2, 1) := by decide +kernel
theorem dd_Model_solve_116 : decode bb_Model_solve 116 = .ok (.iload_n 3, 1) := by decide +kernel
theorem dd_Model_solve_117 : decode bb_Model_solve 117 = .ok (.ifCond .eq 13, 3) := by decide +kernel
theorem dd_Model_solve_120 : decode bb_Model_solve 120 = .ok (.aload_n 0, 1) := by decide +kernel
theorem dd_Model_solve_121 : decode bb_Model_solve 121 = .ok (.getfield 13, 3) := by decide +kernel
theorem dd_Model_solve_124 : decode bb_Model_solve 124 = .ok (.iload_n 2, 1) := by decide +kernel
theorem dd_Model_solve_125 : decode bb_Model_solve 125 = .ok (.iaload, 1) := by decide +kernel
theorem dd_Model_solve_126 : decode bb_Model_solve 126 = .ok (.i2l, 1) := by decide +kernel
theorem dd_Model_solve_127 : decode bb_Model_solve 127 = .ok (.goto 4, 3) := by decide +kernel
theorem dd_Model_solve_130 : decode bb_Model_solve 130 = .ok (.lconst 0, 1) := by decide +kernel
theorem dd_Model_solve_131 : decode bb_Model_solve 131 = .ok (.lastore, 1) := by decide +kernel
theorem dd_Model_solve_132 : decode bb_Model_solve 132 = .ok (.iinc 2 1, 3) := by decide +kernel
theorem dd_Model_solve_135 : decode bb_Model_solve 135 = .ok (.goto (-56), 3) := by decide +kernel
theorem dd_Model_solve_138 : decode bb_Model_solve 138 = .ok (.iconst 1, 1) := by decide +kernel
theorem dd_Model_solve_139 : decode bb_Model_solve 139 = .ok (.istore_n 2, 1) := by decide +kernel
theorem dd_Model_solve_140 : decode bb_Model_solve 140 = .ok (.iload_n 2, 1) := by decide +kernel
theorem dd_Model_solve_141 : decode bb_Model_solve 141 = .ok (.ifCond .eq 101, 3) := by decide +kernel
theorem dd_Model_solve_144 : decode bb_Model_solve 144 = .ok (.aload_n 0, 1) := by decide +kernel
theorem dd_Model_solve_145 : decode bb_Model_solve 145 = .ok (.aload_n 0, 1) := by decide +kernel
theorem dd_Model_solve_146 : decode bb_Model_solve 146 = .ok (.getfield 73, 3) := by decide +kernel
theorem dd_Model_solve_149 : decode bb_Model_solve 149 = .ok (.invokevirtual 137, 3) := by decide +kernel
theorem dd_Model_solve_152 : decode bb_Model_solve 152 = .ok (.iconst 0, 1) := by decide +kernel
theorem dd_Model_solve_153 : decode bb_Model_solve 153 = .ok (.istore_n 2, 1) := by decide +kernel
theorem dd_Model_solve_154 : decode bb_Model_solve 154 = .ok (.aload_n 0, 1) := by decide +kernel
theorem dd_Model_solve_155 : decode bb_Model_solve 155 = .ok (.getfield 7, 3) := by decide +kernel
theorem dd_Model_solve_158 : decode bb_Model_solve 158 = .ok (.iconst 1, 1) := by decide +kernel
theorem dd_Model_solve_159 : decode bb_Model_solve 159 = .ok (.isub, 1) := by decide +kernel
theorem dd_Model_solve_160 : decode bb_Model_solve 160 = .ok (.istore_n 3, 1) := by decide +kernel
theorem dd_Model_solve_161 : decode bb_Model_solve 161 = .ok (.iload_n 3, 1) := by decide +kernel
theorem dd_Model_solve_162 : decode bb_Model_solve 162 = .ok (.ifCond .lt 77, 3) := by decide +kernel
theorem dd_Model_solve_165 : decode bb_Model_solve 165 = .ok (.iload_n 2, 1) := by decide +kernel
theorem dd_Model_solve_166 : decode bb_Model_solve 166 = .ok (.ifCond .ne 73, 3) := by decide +kernel
theorem dd_Model_solve_169 : decode bb_Model_solve 169 = .ok (.iload_n 1, 1) := by decide +kernel
theorem dd_Model_solve_170 : decode bb_Model_solve 170 = .ok (.ifCond .ne 63, 3) := by decide +kernel
theorem dd_Model_solve_173 : decode bb_Model_solve 173 = .ok (.aload_n 0, 1) := by decide +kernel
theorem dd_Model_solve_174 : decode bb_Model_solve 174 = .ok (.getfield 20, 3) := by decide +kernel
theorem dd_Model_solve_177 : decode bb_Model_solve 177 = .ok (.iload_n 3, 1) := by decide +kernel
theorem dd_Model_solve_178 : decode bb_Model_solve 178 = .ok (.baload, 1) := by decide +kernel
theorem dd_Model_solve_179 : decode bb_Model_solve 179 = .ok (.ifCond .eq 54, 3) := by decide +kernel
theorem dd_Model_solve_182 : decode bb_Model_solve 182 = .ok (.aload_n 0, 1) := by decide +kernel
theorem dd_Model_solve_183 : decode bb_Model_solve 183 = .ok (.getfield 73, 3) := by decide +kernel
theorem dd_Model_solve_186 : decode bb_Model_solve 186 = .ok (.iload_n 3, 1) := by decide +kernel
theorem dd_Model_solve_187 : decode bb_Model_solve 187 = .ok (.laload, 1) := by decide +kernel
theorem dd_Model_solve_188 : decode bb_Model_solve 188 = .ok (.aload_n 0, 1) := by decide +kernel
theorem dd_Model_solve_189 : decode bb_Model_solve 189 = .ok (.getfield 17, 3) := by decide +kernel
theorem dd_Model_solve_192 : decode bb_Model_solve 192 = .ok (.iload_n 3, 1) := by decide +kernel
theorem dd_Model_solve_193 : decode bb_Model_solve 193 = .ok (.iaload, 1) := by decide +kernel
theorem dd_Model_solve_194 : decode bb_Model_solve 194 = .ok (.i2l, 1) := by decide +kernel
theorem dd_Model_solve_195 : decode bb_Model_solve 195 = .ok (.lcmp, 1) := by decide +kernel
theorem dd_Model_solve_196 : decode bb_Model_solve 196 = .ok (.ifCond .ge 7, 3) := by decide +kernel
theorem dd_Model_solve_199 : decode bb_Model_solve 199 = .ok (.iconst 1, 1) := by decide +kernel
theorem dd_Model_solve_200 : decode bb_Model_solve 200 = .ok (.goto 4, 3) := by decide +kernel
theorem dd_Model_solve_203 : decode bb_Model_solve 203 = .ok (.iconst 0, 1) := by decide +kernel
theorem dd_Model_solve_204 : decode bb_Model_solve 204 = .ok (.istore_n 2, 1) := by decide +kernel
theorem dd_Model_solve_205 : decode bb_Model_solve 205 = .ok (.aload_n 0, 1) := by decide +kernel
theorem dd_Model_solve_206 : decode bb_Model_solve 206 = .ok (.getfield 73, 3) := by decide +kernel
theorem dd_Model_solve_209 : decode bb_Model_solve 209 = .ok (.iload_n 3, 1) := by decide +kernel
theorem dd_Model_solve_210 : decode bb_Model_solve 210 = .ok (.iload_n 2, 1) := by decide +kernel
theorem dd_Model_solve_211 : decode bb_Model_solve 211 = .ok (.ifCond .eq 14, 3) := by decide +kernel
theorem dd_Model_solve_214 : decode bb_Model_solve 214 = .ok (.aload_n 0, 1) := by decide +kernel
theorem dd_Model_solve_215 : decode bb_Model_solve 215 = .ok (.getfield 73, 3) := by decide +kernel
theorem dd_Model_solve_218 : decode bb_Model_solve 218 = .ok (.iload_n 3, 1) := by decide +kernel
theorem dd_Model_solve_219 : decode bb_Model_solve 219 = .ok (.laload, 1) := by decide +kernel
theorem dd_Model_solve_220 : decode bb_Model_solve 220 = .ok (.lconst 1, 1) := by decide +kernel
theorem dd_Model_solve_221 : decode bb_Model_solve 221 = .ok (.ladd, 1) := by decide +kernel
theorem dd_Model_solve_222 : decode bb_Model_solve 222 = .ok (.goto 10, 3) := by decide +kernel
theorem dd_Model_solve_225 : decode bb_Model_solve 225 = .ok (.aload_n 0, 1) := by decide +kernel
theorem dd_Model_solve_226 : decode bb_Model_solve 226 = .ok (.getfield 13, 3) := by decide +kernel
theorem dd_Model_solve_229 : decode bb_Model_solve 229 = .ok (.iload_n 3, 1) := by decide +kernel
theorem dd_Model_solve_230 : decode bb_Model_solve 230 = .ok (.iaload, 1) := by decide +kernel
theorem dd_Model_solve_231 : decode bb_Model_solve 231 = .ok (.i2l, 1) := by decide +kernel
theorem dd_Model_solve_232 : decode bb_Model_solve 232 = .ok (.lastore, 1) := by decide +kernel
theorem dd_Model_solve_233 : decode bb_Model_solve 233 = .ok (.iinc 3 (-1), 3) := by decide +kernel
theorem dd_Model_solve_236 : decode bb_Model_solve 236 = .ok (.goto (-75), 3) := by decide +kernel
theorem dd_Model_solve_239 : decode bb_Model_solve 239 = .ok (.goto (-99), 3) := by decide +kernel
theorem dd_Model_solve_242 : decode bb_Model_solve 242 = .ok (.aload_n 0, 1) := by decide +kernel
theorem dd_Model_solve_243 : decode bb_Model_solve 243 = .ok (.getfield 107, 3) := by decide +kernel
theorem dd_Model_solve_246 : decode bb_Model_solve 246 = .ok (.ireturn, 1) := by decide +kernel
theorem dd_Model_divisor_0 : decode bb_Model_divisor 0 = .ok (.lload_n 0, 1) := by decide +kernel
theorem dd_Model_divisor_1 : decode bb_Model_divisor 1 = .ok (.lconst 0, 1) := by decide +kernel
theorem dd_Model_divisor_2 : decode bb_Model_divisor 2 = .ok (.lcmp, 1) := by decide +kernel
theorem dd_Model_divisor_3 : decode bb_Model_divisor 3 = .ok (.ifCond .ge 8, 3) := by decide +kernel
theorem dd_Model_divisor_6 : decode bb_Model_divisor 6 = .ok (.lload_n 0, 1) := by decide +kernel
theorem dd_Model_divisor_7 : decode bb_Model_divisor 7 = .ok (.lneg, 1) := by decide +kernel
theorem dd_Model_divisor_8 : decode bb_Model_divisor 8 = .ok (.goto 4, 3) := by decide +kernel
theorem dd_Model_divisor_11 : decode bb_Model_divisor 11 = .ok (.lload_n 0, 1) := by decide +kernel
theorem dd_Model_divisor_12 : decode bb_Model_divisor 12 = .ok (.lstore 4, 2) := by decide +kernel
theorem dd_Model_divisor_14 : decode bb_Model_divisor 14 = .ok (.lload_n 2, 1) := by decide +kernel
theorem dd_Model_divisor_15 : decode bb_Model_divisor 15 = .ok (.lstore 6, 2) := by decide +kernel
theorem dd_Model_divisor_17 : decode bb_Model_divisor 17 = .ok (.lload 6, 2) := by decide +kernel
theorem dd_Model_divisor_19 : decode bb_Model_divisor 19 = .ok (.lconst 0, 1) := by decide +kernel
theorem dd_Model_divisor_20 : decode bb_Model_divisor 20 = .ok (.lcmp, 1) := by decide +kernel
theorem dd_Model_divisor_21 : decode bb_Model_divisor 21 = .ok (.ifCond .eq 21, 3) := by decide +kernel
theorem dd_Model_divisor_24 : decode bb_Model_divisor 24 = .ok (.lload 4, 2) := by decide +kernel
theorem dd_Model_divisor_26 : decode bb_Model_divisor 26 = .ok (.lload 6, 2) := by decide +kernel
theorem dd_Model_divisor_28 : decode bb_Model_divisor 28 = .ok (.lrem, 1) := by decide +kernel
theorem dd_Model_divisor_29 : decode bb_Model_divisor 29 = .ok (.lstore 8, 2) := by decide +kernel
theorem dd_Model_divisor_31 : decode bb_Model_divisor 31 = .ok (.lload 6, 2) := by decide +kernel
theorem dd_Model_divisor_33 : decode bb_Model_divisor 33 = .ok (.lstore 4, 2) := by decide +kernel
theorem dd_Model_divisor_35 : decode bb_Model_divisor 35 = .ok (.lload 8, 2) := by decide +kernel
theorem dd_Model_divisor_37 : decode bb_Model_divisor 37 = .ok (.lstore 6, 2) := by decide +kernel
theorem dd_Model_divisor_39 : decode bb_Model_divisor 39 = .ok (.goto (-22), 3) := by decide +kernel
theorem dd_Model_divisor_42 : decode bb_Model_divisor 42 = .ok (.lload 4, 2) := by decide +kernel
theorem dd_Model_divisor_44 : decode bb_Model_divisor 44 = .ok (.lreturn, 1) := by decide +kernel
theorem dd_Model_part_0 : decode bb_Model_part 0 = .ok (.lload_n 1, 1) := by decide +kernel
theorem dd_Model_part_1 : decode bb_Model_part 1 = .ok (.aload_n 0, 1) := by decide +kernel
theorem dd_Model_part_2 : decode bb_Model_part 2 = .ok (.getfield 101, 3) := by decide +kernel
theorem dd_Model_part_5 : decode bb_Model_part 5 = .ok (.invokestatic 140, 3) := by decide +kernel
theorem dd_Model_part_8 : decode bb_Model_part 8 = .ok (.lstore 4, 2) := by decide +kernel
theorem dd_Model_part_10 : decode bb_Model_part 10 = .ok (.iload_n 3, 1) := by decide +kernel
theorem dd_Model_part_11 : decode bb_Model_part 11 = .ok (.ifCond .ne 10, 3) := by decide +kernel
theorem dd_Model_part_14 : decode bb_Model_part 14 = .ok (.lload_n 1, 1) := by decide +kernel
theorem dd_Model_part_15 : decode bb_Model_part 15 = .ok (.lload 4, 2) := by decide +kernel
theorem dd_Model_part_17 : decode bb_Model_part 17 = .ok (.ldiv, 1) := by decide +kernel
theorem dd_Model_part_18 : decode bb_Model_part 18 = .ok (.goto 10, 3) := by decide +kernel
theorem dd_Model_part_21 : decode bb_Model_part 21 = .ok (.aload_n 0, 1) := by decide +kernel
theorem dd_Model_part_22 : decode bb_Model_part 22 = .ok (.getfield 101, 3) := by decide +kernel
theorem dd_Model_part_25 : decode bb_Model_part 25 = .ok (.lload 4, 2) := by decide +kernel
theorem dd_Model_part_27 : decode bb_Model_part 27 = .ok (.ldiv, 1) := by decide +kernel
theorem dd_Model_part_28 : decode bb_Model_part 28 = .ok (.l2i, 1) := by decide +kernel
theorem dd_Model_part_29 : decode bb_Model_part 29 = .ok (.ireturn, 1) := by decide +kernel
theorem dd_Model_total_0 : decode bb_Model_total 0 = .ok (.aload_n 0, 1) := by decide +kernel
theorem dd_Model_total_1 : decode bb_Model_total 1 = .ok (.iload_n 1, 1) := by decide +kernel
theorem dd_Model_total_2 : decode bb_Model_total 2 = .ok (.ifCond .eq 12, 3) := by decide +kernel
theorem dd_Model_total_5 : decode bb_Model_total 5 = .ok (.iload_n 1, 1) := by decide +kernel
theorem dd_Model_total_6 : decode bb_Model_total 6 = .ok (.iconst 1, 1) := by decide +kernel
theorem dd_Model_total_7 : decode bb_Model_total 7 = .ok (.if_icmp .eq 7, 3) := by decide +kernel
theorem dd_Model_total_10 : decode bb_Model_total 10 = .ok (.iconst 1, 1) := by decide +kernel
theorem dd_Model_total_11 : decode bb_Model_total 11 = .ok (.goto 22, 3) := by decide +kernel
theorem dd_Model_total_14 : decode bb_Model_total 14 = .ok (.aload_n 0, 1) := by decide +kernel
theorem dd_Model_total_15 : decode bb_Model_total 15 = .ok (.getfield 86, 3) := by decide +kernel
theorem dd_Model_total_18 : decode bb_Model_total 18 = .ok (.ifCond .eq 10, 3) := by decide +kernel
theorem dd_Model_total_21 : decode bb_Model_total 21 = .ok (.aload_n 0, 1) := by decide +kernel
theorem dd_Model_total_22 : decode bb_Model_total 22 = .ok (.getfield 107, 3) := by decide +kernel
theorem dd_Model_total_25 : decode bb_Model_total 25 = .ok (.ifCond .ne 7, 3) := by decide +kernel
theorem dd_Model_total_28 : decode bb_Model_total 28 = .ok (.iconst 2, 1) := by decide +kernel
theorem dd_Model_total_29 : decode bb_Model_total 29 = .ok (.goto 4, 3) := by decide +kernel
theorem dd_Model_total_32 : decode bb_Model_total 32 = .ok (.iconst 0, 1) := by decide +kernel
theorem dd_Model_total_33 : decode bb_Model_total 33 = .ok (.putfield 76, 3) := by decide +kernel
theorem dd_Model_total_36 : decode bb_Model_total 36 = .ok (.aload_n 0, 1) := by decide +kernel
theorem dd_Model_total_37 : decode bb_Model_total 37 = .ok (.getfield 76, 3) := by decide +kernel
theorem dd_Model_total_40 : decode bb_Model_total 40 = .ok (.ifCond .le 7, 3) := by decide +kernel
theorem dd_Model_total_43 : decode bb_Model_total 43 = .ok (.iconst 0, 1) := by decide +kernel
theorem dd_Model_total_44 : decode bb_Model_total 44 = .ok (.goto 12, 3) := by decide +kernel
theorem dd_Model_total_47 : decode bb_Model_total 47 = .ok (.aload_n 0, 1) := by decide +kernel
theorem dd_Model_total_48 : decode bb_Model_total 48 = .ok (.aload_n 0, 1) := by decide +kernel
theorem dd_Model_total_49 : decode bb_Model_total 49 = .ok (.getfield 104, 3) := by decide +kernel
theorem dd_Model_total_52 : decode bb_Model_total 52 = .ok (.iload_n 1, 1) := by decide +kernel
theorem dd_Model_total_53 : decode bb_Model_total 53 = .ok (.invokevirtual 144, 3) := by decide +kernel
theorem dd_Model_total_56 : decode bb_Model_total 56 = .ok (.ireturn, 1) := by decide +kernel
theorem dd_Model_plan_0 : decode bb_Model_plan 0 = .ok (.aload_n 0, 1) := by decide +kernel
theorem dd_Model_plan_1 : decode bb_Model_plan 1 = .ok (.iload_n 1, 1) := by decide +kernel
theorem dd_Model_plan_2 : decode bb_Model_plan 2 = .ok (.iconst 0, 1) := by decide +kernel
theorem dd_Model_plan_3 : decode bb_Model_plan 3 = .ok (.aload_n 0, 1) := by decide +kernel
theorem dd_Model_plan_4 : decode bb_Model_plan 4 = .ok (.getfield 7, 3) := by decide +kernel
theorem dd_Model_plan_7 : decode bb_Model_plan 7 = .ok (.iconst 1, 1) := by decide +kernel
theorem dd_Model_plan_8 : decode bb_Model_plan 8 = .ok (.isub, 1) := by decide +kernel
theorem dd_Model_plan_9 : decode bb_Model_plan 9 = .ok (.invokestatic 79, 3) := by decide +kernel
theorem dd_Model_plan_12 : decode bb_Model_plan 12 = .ok (.ifCond .ne 7, 3) := by decide +kernel
theorem dd_Model_plan_15 : decode bb_Model_plan 15 = .ok (.iconst 1, 1) := by decide +kernel
theorem dd_Model_plan_16 : decode bb_Model_plan 16 = .ok (.goto 35, 3) := by decide +kernel
theorem dd_Model_plan_19 : decode bb_Model_plan 19 = .ok (.iload_n 2, 1) := by decide +kernel
theorem dd_Model_plan_20 : decode bb_Model_plan 20 = .ok (.ifCond .eq 12, 3) := by decide +kernel
theorem dd_Model_plan_23 : decode bb_Model_plan 23 = .ok (.iload_n 2, 1) := by decide +kernel
theorem dd_Model_plan_24 : decode bb_Model_plan 24 = .ok (.iconst 1, 1) := by decide +kernel
theorem dd_Model_plan_25 : decode bb_Model_plan 25 = .ok (.if_icmp .eq 7, 3) := by decide +kernel
theorem dd_Model_plan_28 : decode bb_Model_plan 28 = .ok (.iconst 2, 1) := by decide +kernel
theorem dd_Model_plan_29 : decode bb_Model_plan 29 = .ok (.goto 22, 3) := by decide +kernel
theorem dd_Model_plan_32 : decode bb_Model_plan 32 = .ok (.aload_n 0, 1) := by decide +kernel
theorem dd_Model_plan_33 : decode bb_Model_plan 33 = .ok (.getfield 86, 3) := by decide +kernel
theorem dd_Model_plan_36 : decode bb_Model_plan 36 = .ok (.ifCond .eq 10, 3) := by decide +kernel
theorem dd_Model_plan_39 : decode bb_Model_plan 39 = .ok (.aload_n 0, 1) := by decide +kernel
theorem dd_Model_plan_40 : decode bb_Model_plan 40 = .ok (.getfield 107, 3) := by decide +kernel
theorem dd_Model_plan_43 : decode bb_Model_plan 43 = .ok (.ifCond .ne 7, 3) := by decide +kernel
theorem dd_Model_plan_46 : decode bb_Model_plan 46 = .ok (.iconst 3, 1) := by decide +kernel
theorem dd_Model_plan_47 : decode bb_Model_plan 47 = .ok (.goto 4, 3) := by decide +kernel
theorem dd_Model_plan_50 : decode bb_Model_plan 50 = .ok (.iconst 0, 1) := by decide +kernel
theorem dd_Model_plan_51 : decode bb_Model_plan 51 = .ok (.putfield 76, 3) := by decide +kernel
theorem dd_Model_plan_54 : decode bb_Model_plan 54 = .ok (.aload_n 0, 1) := by decide +kernel
theorem dd_Model_plan_55 : decode bb_Model_plan 55 = .ok (.getfield 76, 3) := by decide +kernel
theorem dd_Model_plan_58 : decode bb_Model_plan 58 = .ok (.ifCond .le 7, 3) := by decide +kernel
theorem dd_Model_plan_61 : decode bb_Model_plan 61 = .ok (.iconst 0, 1) := by decide +kernel
theorem dd_Model_plan_62 : decode bb_Model_plan 62 = .ok (.goto 14, 3) := by decide +kernel
theorem dd_Model_plan_65 : decode bb_Model_plan 65 = .ok (.aload_n 0, 1) := by decide +kernel
theorem dd_Model_plan_66 : decode bb_Model_plan 66 = .ok (.aload_n 0, 1) := by decide +kernel
theorem dd_Model_plan_67 : decode bb_Model_plan 67 = .ok (.getfield 33, 3) := by decide +kernel
theorem dd_Model_plan_70 : decode bb_Model_plan 70 = .ok (.iload_n 1, 1) := by decide +kernel
theorem dd_Model_plan_71 : decode bb_Model_plan 71 = .ok (.laload, 1) := by decide +kernel
theorem dd_Model_plan_72 : decode bb_Model_plan 72 = .ok (.iload_n 2, 1) := by decide +kernel
theorem dd_Model_plan_73 : decode bb_Model_plan 73 = .ok (.invokevirtual 144, 3) := by decide +kernel
theorem dd_Model_plan_76 : decode bb_Model_plan 76 = .ok (.ireturn, 1) := by decide +kernel
theorem dd_Model_keeps_0 : decode bb_Model_keeps 0 = .ok (.iload 5, 2) := by decide +kernel
theorem dd_Model_keeps_2 : decode bb_Model_keeps 2 = .ok (.iconst 1, 1) := by decide +kernel
theorem dd_Model_keeps_3 : decode bb_Model_keeps 3 = .ok (.sipush 1000, 3) := by decide +kernel
theorem dd_Model_keeps_6 : decode bb_Model_keeps 6 = .ok (.invokestatic 79, 3) := by decide +kernel
theorem dd_Model_keeps_9 : decode bb_Model_keeps 9 = .ok (.istore 6, 2) := by decide +kernel
theorem dd_Model_keeps_11 : decode bb_Model_keeps 11 = .ok (.iconst 0, 1) := by decide +kernel
theorem dd_Model_keeps_12 : decode bb_Model_keeps 12 = .ok (.istore 7, 2) := by decide +kernel
theorem dd_Model_keeps_14 : decode bb_Model_keeps 14 = .ok (.iload 7, 2) := by decide +kernel
theorem dd_Model_keeps_16 : decode bb_Model_keeps 16 = .ok (.iconst 4, 1) := by decide +kernel
theorem dd_Model_keeps_17 : decode bb_Model_keeps 17 = .ok (.if_icmp .ge 43, 3) := by decide +kernel
theorem dd_Model_keeps_20 : decode bb_Model_keeps 20 = .ok (.iload 6, 2) := by decide +kernel
theorem dd_Model_keeps_22 : decode bb_Model_keeps 22 = .ok (.ifCond .eq 29, 3) := by decide +kernel
theorem dd_Model_keeps_25 : decode bb_Model_keeps 25 = .ok (.iload 7, 2) := by decide +kernel
theorem dd_Model_keeps_27 : decode bb_Model_keeps 27 = .ok (.iload_n 1, 1) := by decide +kernel
theorem dd_Model_keeps_28 : decode bb_Model_keeps 28 = .ok (.iload_n 2, 1) := by decide +kernel
theorem dd_Model_keeps_29 : decode bb_Model_keeps 29 = .ok (.iload_n 3, 1) := by decide +kernel
theorem dd_Model_keeps_30 : decode bb_Model_keeps 30 = .ok (.iload 4, 2) := by decide +kernel
theorem dd_Model_keeps_32 : decode bb_Model_keeps 32 = .ok (.invokestatic 89, 3) := by decide +kernel
theorem dd_Model_keeps_35 : decode bb_Model_keeps 35 = .ok (.sipush (-20000), 3) := by decide +kernel
theorem dd_Model_keeps_38 : decode bb_Model_keeps 38 = .ok (.sipush 20000, 3) := by decide +kernel
theorem dd_Model_keeps_41 : decode bb_Model_keeps 41 = .ok (.invokestatic 79, 3) := by decide +kernel
theorem dd_Model_keeps_44 : decode bb_Model_keeps 44 = .ok (.ifCond .eq 7, 3) := by decide +kernel
theorem dd_Model_keeps_47 : decode bb_Model_keeps 47 = .ok (.iconst 1, 1) := by decide +kernel
theorem dd_Model_keeps_48 : decode bb_Model_keeps 48 = .ok (.goto 4, 3) := by decide +kernel
theorem dd_Model_keeps_51 : decode bb_Model_keeps 51 = .ok (.iconst 0, 1) := by decide +kernel
theorem dd_Model_keeps_52 : decode bb_Model_keeps 52 = .ok (.istore 6, 2) := by decide +kernel
theorem dd_Model_keeps_54 : decode bb_Model_keeps 54 = .ok (.iinc 7 1, 3) := by decide +kernel
theorem dd_Model_keeps_57 : decode bb_Model_keeps 57 = .ok (.goto (-43), 3) := by decide +kernel
theorem dd_Model_keeps_60 : decode bb_Model_keeps 60 = .ok (.aload_n 0, 1) := by decide +kernel
theorem dd_Model_keeps_61 : decode bb_Model_keeps 61 = .ok (.iload 6, 2) := by decide +kernel
theorem dd_Model_keeps_63 : decode bb_Model_keeps 63 = .ok (.ifCond .eq 7, 3) := by decide +kernel
theorem dd_Model_keeps_66 : decode bb_Model_keeps 66 = .ok (.iconst 0, 1) := by decide +kernel
theorem dd_Model_keeps_67 : decode bb_Model_keeps 67 = .ok (.goto 4, 3) := by decide +kernel
theorem dd_Model_keeps_70 : decode bb_Model_keeps 70 = .ok (.iconst 1, 1) := by decide +kernel
theorem dd_Model_keeps_71 : decode bb_Model_keeps 71 = .ok (.putfield 76, 3) := by decide +kernel
theorem dd_Model_keeps_74 : decode bb_Model_keeps 74 = .ok (.aload_n 0, 1) := by decide +kernel
theorem dd_Model_keeps_75 : decode bb_Model_keeps 75 = .ok (.getfield 76, 3) := by decide +kernel
theorem dd_Model_keeps_78 : decode bb_Model_keeps 78 = .ok (.ifCond .le 5, 3) := by decide +kernel
theorem dd_Model_keeps_81 : decode bb_Model_keeps 81 = .ok (.iconst 0, 1) := by decide +kernel
theorem dd_Model_keeps_82 : decode bb_Model_keeps 82 = .ok (.ireturn, 1) := by decide +kernel
theorem dd_Model_keeps_83 : decode bb_Model_keeps 83 = .ok (.aload_n 0, 1) := by decide +kernel
theorem dd_Model_keeps_84 : decode bb_Model_keeps 84 = .ok (.iload 5, 2) := by decide +kernel
theorem dd_Model_keeps_86 : decode bb_Model_keeps 86 = .ok (.i2l, 1) := by decide +kernel
theorem dd_Model_keeps_87 : decode bb_Model_keeps 87 = .ok (.putfield 93, 3) := by decide +kernel
theorem dd_Model_keeps_90 : decode bb_Model_keeps 90 = .ok (.iconst 1, 1) := by decide +kernel
theorem dd_Model_keeps_91 : decode bb_Model_keeps 91 = .ok (.istore 7, 2) := by decide +kernel
theorem dd_Model_keeps_93 : decode bb_Model_keeps 93 = .ok (.iconst 0, 1) := by decide +kernel
theorem dd_Model_keeps_94 : decode bb_Model_keeps 94 = .ok (.istore 8, 2) := by decide +kernel
theorem dd_Model_keeps_96 : decode bb_Model_keeps 96 = .ok (.iload 8, 2) := by decide +kernel
theorem dd_Model_keeps_98 : decode bb_Model_keeps 98 = .ok (.aload_n 0, 1) := by decide +kernel
theorem dd_Model_keeps_99 : decode bb_Model_keeps 99 = .ok (.getfield 7, 3) := by decide +kernel
theorem dd_Model_keeps_102 : decode bb_Model_keeps 102 = .ok (.if_icmp .ge 65, 3) := by decide +kernel
theorem dd_Model_keeps_105 : decode bb_Model_keeps 105 = .ok (.aload_n 0, 1) := by decide +kernel
theorem dd_Model_keeps_106 : decode bb_Model_keeps 106 = .ok (.getfield 37, 3) := by decide +kernel
theorem dd_Model_keeps_109 : decode bb_Model_keeps 109 = .ok (.iload 8, 2) := by decide +kernel
theorem dd_Model_keeps_111 : decode bb_Model_keeps 111 = .ok (.iload 8, 2) := by decide +kernel
theorem dd_Model_keeps_113 : decode bb_Model_keeps 113 = .ok (.iload_n 1, 1) := by decide +kernel
theorem dd_Model_keeps_114 : decode bb_Model_keeps 114 = .ok (.iload_n 2, 1) := by decide +kernel
theorem dd_Model_keeps_115 : decode bb_Model_keeps 115 = .ok (.iload_n 3, 1) := by decide +kernel
theorem dd_Model_keeps_116 : decode bb_Model_keeps 116 = .ok (.iload 4, 2) := by decide +kernel
theorem dd_Model_keeps_118 : decode bb_Model_keeps 118 = .ok (.invokestatic 89, 3) := by decide +kernel
theorem dd_Model_keeps_121 : decode bb_Model_keeps 121 = .ok (.i2l, 1) := by decide +kernel
theorem dd_Model_keeps_122 : decode bb_Model_keeps 122 = .ok (.lastore, 1) := by decide +kernel
theorem dd_Model_keeps_123 : decode bb_Model_keeps 123 = .ok (.iload 7, 2) := by decide +kernel
theorem dd_Model_keeps_125 : decode bb_Model_keeps 125 = .ok (.ifCond .eq 33, 3) := by decide +kernel
theorem dd_Model_keeps_128 : decode bb_Model_keeps 128 = .ok (.aload_n 0, 1) := by decide +kernel
theorem dd_Model_keeps_129 : decode bb_Model_keeps 129 = .ok (.getfield 20, 3) := by decide +kernel
theorem dd_Model_keeps_132 : decode bb_Model_keeps 132 = .ok (.iload 8, 2) := by decide +kernel
theorem dd_Model_keeps_134 : decode bb_Model_keeps 134 = .ok (.baload, 1) := by decide +kernel
theorem dd_Model_keeps_135 : decode bb_Model_keeps 135 = .ok (.ifCond .eq 19, 3) := by decide +kernel
theorem dd_Model_keeps_138 : decode bb_Model_keeps 138 = .ok (.aload_n 0, 1) := by decide +kernel
theorem dd_Model_keeps_139 : decode bb_Model_keeps 139 = .ok (.getfield 37, 3) := by decide +kernel
theorem dd_Model_keeps_142 : decode bb_Model_keeps 142 = .ok (.iload 8, 2) := by decide +kernel
theorem dd_Model_keeps_144 : decode bb_Model_keeps 144 = .ok (.laload, 1) := by decide +kernel
theorem dd_Model_keeps_145 : decode bb_Model_keeps 145 = .ok (.iload 5, 2) := by decide +kernel
theorem dd_Model_keeps_147 : decode bb_Model_keeps 147 = .ok (.i2l, 1) := by decide +kernel
theorem dd_Model_keeps_148 : decode bb_Model_keeps 148 = .ok (.lrem, 1) := by decide +kernel
theorem dd_Model_keeps_149 : decode bb_Model_keeps 149 = .ok (.lconst 0, 1) := by decide +kernel
theorem dd_Model_keeps_150 : decode bb_Model_keeps 150 = .ok (.lcmp, 1) := by decide +kernel
theorem dd_Model_keeps_151 : decode bb_Model_keeps 151 = .ok (.ifCond .ne 7, 3) := by decide +kernel
theorem dd_Model_keeps_154 : decode bb_Model_keeps 154 = .ok (.iconst 1, 1) := by decide +kernel
theorem dd_Model_keeps_155 : decode bb_Model_keeps 155 = .ok (.goto 4, 3) := by decide +kernel
theorem dd_Model_keeps_158 : decode bb_Model_keeps 158 = .ok (.iconst 0, 1) := by decide +kernel
theorem dd_Model_keeps_159 : decode bb_Model_keeps 159 = .ok (.istore 7, 2) := by decide +kernel
theorem dd_Model_keeps_161 : decode bb_Model_keeps 161 = .ok (.iinc 8 1, 3) := by decide +kernel
theorem dd_Model_keeps_164 : decode bb_Model_keeps 164 = .ok (.goto (-68), 3) := by decide +kernel
theorem dd_Model_keeps_167 : decode bb_Model_keeps 167 = .ok (.iload 7, 2) := by decide +kernel
theorem dd_Model_keeps_169 : decode bb_Model_keeps 169 = .ok (.ifCond .eq 14, 3) := by decide +kernel
theorem dd_Model_keeps_172 : decode bb_Model_keeps 172 = .ok (.aload_n 0, 1) := by decide +kernel
theorem dd_Model_keeps_173 : decode bb_Model_keeps 173 = .ok (.invokevirtual 97, 3) := by decide +kernel
theorem dd_Model_keeps_176 : decode bb_Model_keeps 176 = .ok (.ifCond .eq 7, 3) := by decide +kernel
theorem dd_Model_keeps_179 : decode bb_Model_keeps 179 = .ok (.iconst 1, 1) := by decide +kernel
theorem dd_Model_keeps_180 : decode bb_Model_keeps 180 = .ok (.goto 4, 3) := by decide +kernel
theorem dd_Model_keeps_183 : decode bb_Model_keeps 183 = .ok (.iconst 0, 1) := by decide +kernel
theorem dd_Model_keeps_184 : decode bb_Model_keeps 184 = .ok (.ireturn, 1) := by decide +kernel
theorem dd_Model_isNode_0 : decode bb_Model_isNode 0 = .ok (.iload_n 0, 1) := by decide +kernel
theorem dd_Model_isNode_1 : decode bb_Model_isNode 1 = .ok (.ifCond .lt 13, 3) := by decide +kernel
theorem dd_Model_isNode_4 : decode bb_Model_isNode 4 = .ok (.iload_n 0, 1) := by decide +kernel
theorem dd_Model_isNode_5 : decode bb_Model_isNode 5 = .ok (.bipush 40, 2) := by decide +kernel
theorem dd_Model_isNode_7 : decode bb_Model_isNode 7 = .ok (.if_icmp .ge 7, 3) := by decide +kernel
theorem dd_Model_isNode_10 : decode bb_Model_isNode 10 = .ok (.iconst 1, 1) := by decide +kernel
theorem dd_Model_isNode_11 : decode bb_Model_isNode 11 = .ok (.goto 4, 3) := by decide +kernel
theorem dd_Model_isNode_14 : decode bb_Model_isNode 14 = .ok (.iconst 0, 1) := by decide +kernel
theorem dd_Model_isNode_15 : decode bb_Model_isNode 15 = .ok (.ireturn, 1) := by decide +kernel
theorem dd_Model_fork_0 : decode bb_Model_fork 0 = .ok (.iload_n 1, 1) := by decide +kernel
theorem dd_Model_fork_1 : decode bb_Model_fork 1 = .ok (.invokestatic 148, 3) := by decide +kernel
theorem dd_Model_fork_4 : decode bb_Model_fork 4 = .ok (.ifCond .eq 35, 3) := by decide +kernel
theorem dd_Model_fork_7 : decode bb_Model_fork 7 = .ok (.iload 4, 2) := by decide +kernel
theorem dd_Model_fork_9 : decode bb_Model_fork 9 = .ok (.invokestatic 148, 3) := by decide +kernel
theorem dd_Model_fork_12 : decode bb_Model_fork 12 = .ok (.ifCond .eq 27, 3) := by decide +kernel
theorem dd_Model_fork_15 : decode bb_Model_fork 15 = .ok (.iload 5, 2) := by decide +kernel
theorem dd_Model_fork_17 : decode bb_Model_fork 17 = .ok (.invokestatic 148, 3) := by decide +kernel
theorem dd_Model_fork_20 : decode bb_Model_fork 20 = .ok (.ifCond .eq 19, 3) := by decide +kernel
theorem dd_Model_fork_23 : decode bb_Model_fork 23 = .ok (.iload 4, 2) := by decide +kernel
theorem dd_Model_fork_25 : decode bb_Model_fork 25 = .ok (.iload_n 1, 1) := by decide +kernel
theorem dd_Model_fork_26 : decode bb_Model_fork 26 = .ok (.if_icmp .le 13, 3) := by decide +kernel
theorem dd_Model_fork_29 : decode bb_Model_fork 29 = .ok (.iload 5, 2) := by decide +kernel
theorem dd_Model_fork_31 : decode bb_Model_fork 31 = .ok (.iload_n 1, 1) := by decide +kernel
theorem dd_Model_fork_32 : decode bb_Model_fork 32 = .ok (.if_icmp .le 7, 3) := by decide +kernel
theorem dd_Model_fork_35 : decode bb_Model_fork 35 = .ok (.iconst 1, 1) := by decide +kernel
theorem dd_Model_fork_36 : decode bb_Model_fork 36 = .ok (.goto 4, 3) := by decide +kernel
