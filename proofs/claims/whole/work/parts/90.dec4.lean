theorem dd_Model_fork_39 : decode bb_Model_fork 39 = .ok (.iconst 0, 1) := by decide +kernel
theorem dd_Model_fork_40 : decode bb_Model_fork 40 = .ok (.istore 6, 2) := by decide +kernel
theorem dd_Model_fork_42 : decode bb_Model_fork 42 = .ok (.aload_n 0, 1) := by decide +kernel
theorem dd_Model_fork_43 : decode bb_Model_fork 43 = .ok (.iload 6, 2) := by decide +kernel
theorem dd_Model_fork_45 : decode bb_Model_fork 45 = .ok (.ifCond .ne 7, 3) := by decide +kernel
theorem dd_Model_fork_48 : decode bb_Model_fork 48 = .ok (.iconst 1, 1) := by decide +kernel
theorem dd_Model_fork_49 : decode bb_Model_fork 49 = .ok (.goto 28, 3) := by decide +kernel
theorem dd_Model_fork_52 : decode bb_Model_fork 52 = .ok (.iload_n 2, 1) := by decide +kernel
theorem dd_Model_fork_53 : decode bb_Model_fork 53 = .ok (.iconst 0, 1) := by decide +kernel
theorem dd_Model_fork_54 : decode bb_Model_fork 54 = .ok (.iconst 3, 1) := by decide +kernel
theorem dd_Model_fork_55 : decode bb_Model_fork 55 = .ok (.invokestatic 79, 3) := by decide +kernel
theorem dd_Model_fork_58 : decode bb_Model_fork 58 = .ok (.ifCond .eq 18, 3) := by decide +kernel
theorem dd_Model_fork_61 : decode bb_Model_fork 61 = .ok (.iload_n 3, 1) := by decide +kernel
theorem dd_Model_fork_62 : decode bb_Model_fork 62 = .ok (.bipush (-20), 2) := by decide +kernel
theorem dd_Model_fork_64 : decode bb_Model_fork 64 = .ok (.bipush 20, 2) := by decide +kernel
theorem dd_Model_fork_66 : decode bb_Model_fork 66 = .ok (.invokestatic 79, 3) := by decide +kernel
theorem dd_Model_fork_69 : decode bb_Model_fork 69 = .ok (.ifCond .eq 7, 3) := by decide +kernel
theorem dd_Model_fork_72 : decode bb_Model_fork 72 = .ok (.iconst 0, 1) := by decide +kernel
theorem dd_Model_fork_73 : decode bb_Model_fork 73 = .ok (.goto 4, 3) := by decide +kernel
theorem dd_Model_fork_76 : decode bb_Model_fork 76 = .ok (.iconst 2, 1) := by decide +kernel
theorem dd_Model_fork_77 : decode bb_Model_fork 77 = .ok (.putfield 76, 3) := by decide +kernel
theorem dd_Model_fork_80 : decode bb_Model_fork 80 = .ok (.aload_n 0, 1) := by decide +kernel
theorem dd_Model_fork_81 : decode bb_Model_fork 81 = .ok (.getfield 76, 3) := by decide +kernel
theorem dd_Model_fork_84 : decode bb_Model_fork 84 = .ok (.ifCond .ne 40, 3) := by decide +kernel
theorem dd_Model_fork_87 : decode bb_Model_fork 87 = .ok (.aload_n 0, 1) := by decide +kernel
theorem dd_Model_fork_88 : decode bb_Model_fork 88 = .ok (.getfield 52, 3) := by decide +kernel
theorem dd_Model_fork_91 : decode bb_Model_fork 91 = .ok (.iload_n 1, 1) := by decide +kernel
theorem dd_Model_fork_92 : decode bb_Model_fork 92 = .ok (.iconst 1, 1) := by decide +kernel
theorem dd_Model_fork_93 : decode bb_Model_fork 93 = .ok (.iastore, 1) := by decide +kernel
theorem dd_Model_fork_94 : decode bb_Model_fork 94 = .ok (.aload_n 0, 1) := by decide +kernel
theorem dd_Model_fork_95 : decode bb_Model_fork 95 = .ok (.getfield 55, 3) := by decide +kernel
theorem dd_Model_fork_98 : decode bb_Model_fork 98 = .ok (.iload_n 1, 1) := by decide +kernel
theorem dd_Model_fork_99 : decode bb_Model_fork 99 = .ok (.iload_n 2, 1) := by decide +kernel
theorem dd_Model_fork_100 : decode bb_Model_fork 100 = .ok (.iastore, 1) := by decide +kernel
theorem dd_Model_fork_101 : decode bb_Model_fork 101 = .ok (.aload_n 0, 1) := by decide +kernel
theorem dd_Model_fork_102 : decode bb_Model_fork 102 = .ok (.getfield 58, 3) := by decide +kernel
theorem dd_Model_fork_105 : decode bb_Model_fork 105 = .ok (.iload_n 1, 1) := by decide +kernel
theorem dd_Model_fork_106 : decode bb_Model_fork 106 = .ok (.iload_n 3, 1) := by decide +kernel
theorem dd_Model_fork_107 : decode bb_Model_fork 107 = .ok (.iastore, 1) := by decide +kernel
theorem dd_Model_fork_108 : decode bb_Model_fork 108 = .ok (.aload_n 0, 1) := by decide +kernel
theorem dd_Model_fork_109 : decode bb_Model_fork 109 = .ok (.getfield 61, 3) := by decide +kernel
theorem dd_Model_fork_112 : decode bb_Model_fork 112 = .ok (.iload_n 1, 1) := by decide +kernel
theorem dd_Model_fork_113 : decode bb_Model_fork 113 = .ok (.iload 4, 2) := by decide +kernel
theorem dd_Model_fork_115 : decode bb_Model_fork 115 = .ok (.iastore, 1) := by decide +kernel
theorem dd_Model_fork_116 : decode bb_Model_fork 116 = .ok (.aload_n 0, 1) := by decide +kernel
theorem dd_Model_fork_117 : decode bb_Model_fork 117 = .ok (.getfield 64, 3) := by decide +kernel
theorem dd_Model_fork_120 : decode bb_Model_fork 120 = .ok (.iload_n 1, 1) := by decide +kernel
theorem dd_Model_fork_121 : decode bb_Model_fork 121 = .ok (.iload 5, 2) := by decide +kernel
theorem dd_Model_fork_123 : decode bb_Model_fork 123 = .ok (.iastore, 1) := by decide +kernel
theorem dd_Model_fork_124 : decode bb_Model_fork 124 = .ok (.return_, 1) := by decide +kernel
theorem dd_Model_end_0 : decode bb_Model_end 0 = .ok (.iconst 1, 1) := by decide +kernel
theorem dd_Model_end_1 : decode bb_Model_end 1 = .ok (.istore 9, 2) := by decide +kernel
theorem dd_Model_end_3 : decode bb_Model_end 3 = .ok (.iconst 0, 1) := by decide +kernel
theorem dd_Model_end_4 : decode bb_Model_end 4 = .ok (.istore 10, 2) := by decide +kernel
theorem dd_Model_end_6 : decode bb_Model_end 6 = .ok (.iload 10, 2) := by decide +kernel
theorem dd_Model_end_8 : decode bb_Model_end 8 = .ok (.bipush 7, 2) := by decide +kernel
theorem dd_Model_end_10 : decode bb_Model_end 10 = .ok (.if_icmp .ge 99, 3) := by decide +kernel
theorem dd_Model_end_13 : decode bb_Model_end 13 = .ok (.iload 10, 2) := by decide +kernel
theorem dd_Model_end_15 : decode bb_Model_end 15 = .ok (.ifCond .ne 7, 3) := by decide +kernel
theorem dd_Model_end_18 : decode bb_Model_end 18 = .ok (.iload_n 2, 1) := by decide +kernel
theorem dd_Model_end_19 : decode bb_Model_end 19 = .ok (.goto 59, 3) := by decide +kernel
theorem dd_Model_end_22 : decode bb_Model_end 22 = .ok (.iload 10, 2) := by decide +kernel
theorem dd_Model_end_24 : decode bb_Model_end 24 = .ok (.iconst 1, 1) := by decide +kernel
theorem dd_Model_end_25 : decode bb_Model_end 25 = .ok (.if_icmp .ne 7, 3) := by decide +kernel
theorem dd_Model_end_28 : decode bb_Model_end 28 = .ok (.iload_n 3, 1) := by decide +kernel
theorem dd_Model_end_29 : decode bb_Model_end 29 = .ok (.goto 49, 3) := by decide +kernel
theorem dd_Model_end_32 : decode bb_Model_end 32 = .ok (.iload 10, 2) := by decide +kernel
theorem dd_Model_end_34 : decode bb_Model_end 34 = .ok (.iconst 2, 1) := by decide +kernel
theorem dd_Model_end_35 : decode bb_Model_end 35 = .ok (.if_icmp .ne 8, 3) := by decide +kernel
theorem dd_Model_end_38 : decode bb_Model_end 38 = .ok (.iload 4, 2) := by decide +kernel
theorem dd_Model_end_40 : decode bb_Model_end 40 = .ok (.goto 38, 3) := by decide +kernel
theorem dd_Model_end_43 : decode bb_Model_end 43 = .ok (.iload 10, 2) := by decide +kernel
theorem dd_Model_end_45 : decode bb_Model_end 45 = .ok (.iconst 3, 1) := by decide +kernel
theorem dd_Model_end_46 : decode bb_Model_end 46 = .ok (.if_icmp .ne 8, 3) := by decide +kernel
theorem dd_Model_end_49 : decode bb_Model_end 49 = .ok (.iload 5, 2) := by decide +kernel
theorem dd_Model_end_51 : decode bb_Model_end 51 = .ok (.goto 27, 3) := by decide +kernel
theorem dd_Model_end_54 : decode bb_Model_end 54 = .ok (.iload 10, 2) := by decide +kernel
theorem dd_Model_end_56 : decode bb_Model_end 56 = .ok (.iconst 4, 1) := by decide +kernel
theorem dd_Model_end_57 : decode bb_Model_end 57 = .ok (.if_icmp .ne 8, 3) := by decide +kernel
theorem dd_Model_end_60 : decode bb_Model_end 60 = .ok (.iload 6, 2) := by decide +kernel
theorem dd_Model_end_62 : decode bb_Model_end 62 = .ok (.goto 16, 3) := by decide +kernel
theorem dd_Model_end_65 : decode bb_Model_end 65 = .ok (.iload 10, 2) := by decide +kernel
theorem dd_Model_end_67 : decode bb_Model_end 67 = .ok (.iconst 5, 1) := by decide +kernel
theorem dd_Model_end_68 : decode bb_Model_end 68 = .ok (.if_icmp .ne 8, 3) := by decide +kernel
theorem dd_Model_end_71 : decode bb_Model_end 71 = .ok (.iload 7, 2) := by decide +kernel
theorem dd_Model_end_73 : decode bb_Model_end 73 = .ok (.goto 5, 3) := by decide +kernel
theorem dd_Model_end_76 : decode bb_Model_end 76 = .ok (.iload 8, 2) := by decide +kernel
theorem dd_Model_end_78 : decode bb_Model_end 78 = .ok (.istore 11, 2) := by decide +kernel
theorem dd_Model_end_80 : decode bb_Model_end 80 = .ok (.iload 9, 2) := by decide +kernel
theorem dd_Model_end_82 : decode bb_Model_end 82 = .ok (.ifCond .eq 18, 3) := by decide +kernel
theorem dd_Model_end_85 : decode bb_Model_end 85 = .ok (.iload 11, 2) := by decide +kernel
theorem dd_Model_end_87 : decode bb_Model_end 87 = .ok (.iconst 0, 1) := by decide +kernel
theorem dd_Model_end_88 : decode bb_Model_end 88 = .ok (.ldc 152, 2) := by decide +kernel
theorem dd_Model_end_90 : decode bb_Model_end 90 = .ok (.invokestatic 79, 3) := by decide +kernel
theorem dd_Model_end_93 : decode bb_Model_end 93 = .ok (.ifCond .eq 7, 3) := by decide +kernel
theorem dd_Model_end_96 : decode bb_Model_end 96 = .ok (.iconst 1, 1) := by decide +kernel
theorem dd_Model_end_97 : decode bb_Model_end 97 = .ok (.goto 4, 3) := by decide +kernel
theorem dd_Model_end_100 : decode bb_Model_end 100 = .ok (.iconst 0, 1) := by decide +kernel
theorem dd_Model_end_101 : decode bb_Model_end 101 = .ok (.istore 9, 2) := by decide +kernel
theorem dd_Model_end_103 : decode bb_Model_end 103 = .ok (.iinc 10 1, 3) := by decide +kernel
theorem dd_Model_end_106 : decode bb_Model_end 106 = .ok (.goto (-100), 3) := by decide +kernel
theorem dd_Model_end_109 : decode bb_Model_end 109 = .ok (.aload_n 0, 1) := by decide +kernel
theorem dd_Model_end_110 : decode bb_Model_end 110 = .ok (.iload_n 1, 1) := by decide +kernel
theorem dd_Model_end_111 : decode bb_Model_end 111 = .ok (.invokestatic 148, 3) := by decide +kernel
theorem dd_Model_end_114 : decode bb_Model_end 114 = .ok (.ifCond .ne 7, 3) := by decide +kernel
theorem dd_Model_end_117 : decode bb_Model_end 117 = .ok (.iconst 1, 1) := by decide +kernel
theorem dd_Model_end_118 : decode bb_Model_end 118 = .ok (.goto 13, 3) := by decide +kernel
theorem dd_Model_end_121 : decode bb_Model_end 121 = .ok (.iload 9, 2) := by decide +kernel
theorem dd_Model_end_123 : decode bb_Model_end 123 = .ok (.ifCond .eq 7, 3) := by decide +kernel
theorem dd_Model_end_126 : decode bb_Model_end 126 = .ok (.iconst 0, 1) := by decide +kernel
theorem dd_Model_end_127 : decode bb_Model_end 127 = .ok (.goto 4, 3) := by decide +kernel
theorem dd_Model_end_130 : decode bb_Model_end 130 = .ok (.iconst 2, 1) := by decide +kernel
theorem dd_Model_end_131 : decode bb_Model_end 131 = .ok (.putfield 76, 3) := by decide +kernel
theorem dd_Model_end_134 : decode bb_Model_end 134 = .ok (.iconst 0, 1) := by decide +kernel
theorem dd_Model_end_135 : decode bb_Model_end 135 = .ok (.istore 10, 2) := by decide +kernel
theorem dd_Model_end_137 : decode bb_Model_end 137 = .ok (.iload 10, 2) := by decide +kernel
theorem dd_Model_end_139 : decode bb_Model_end 139 = .ok (.bipush 7, 2) := by decide +kernel
theorem dd_Model_end_141 : decode bb_Model_end 141 = .ok (.if_icmp .ge 107, 3) := by decide +kernel
theorem dd_Model_end_144 : decode bb_Model_end 144 = .ok (.aload_n 0, 1) := by decide +kernel
theorem dd_Model_end_145 : decode bb_Model_end 145 = .ok (.getfield 76, 3) := by decide +kernel
theorem dd_Model_end_148 : decode bb_Model_end 148 = .ok (.ifCond .ne 100, 3) := by decide +kernel
theorem dd_Model_end_151 : decode bb_Model_end 151 = .ok (.aload_n 0, 1) := by decide +kernel
theorem dd_Model_end_152 : decode bb_Model_end 152 = .ok (.getfield 52, 3) := by decide +kernel
theorem dd_Model_end_155 : decode bb_Model_end 155 = .ok (.iload_n 1, 1) := by decide +kernel
theorem dd_Model_end_156 : decode bb_Model_end 156 = .ok (.iconst 2, 1) := by decide +kernel
theorem dd_Model_end_157 : decode bb_Model_end 157 = .ok (.iastore, 1) := by decide +kernel
theorem dd_Model_end_158 : decode bb_Model_end 158 = .ok (.aload_n 0, 1) := by decide +kernel
theorem dd_Model_end_159 : decode bb_Model_end 159 = .ok (.getfield 67, 3) := by decide +kernel
theorem dd_Model_end_162 : decode bb_Model_end 162 = .ok (.bipush 7, 2) := by decide +kernel
theorem dd_Model_end_164 : decode bb_Model_end 164 = .ok (.iload_n 1, 1) := by decide +kernel
theorem dd_Model_end_165 : decode bb_Model_end 165 = .ok (.imul, 1) := by decide +kernel
theorem dd_Model_end_166 : decode bb_Model_end 166 = .ok (.iload 10, 2) := by decide +kernel
theorem dd_Model_end_168 : decode bb_Model_end 168 = .ok (.iadd, 1) := by decide +kernel
theorem dd_Model_end_169 : decode bb_Model_end 169 = .ok (.iload 10, 2) := by decide +kernel
theorem dd_Model_end_171 : decode bb_Model_end 171 = .ok (.ifCond .ne 8, 3) := by decide +kernel
theorem dd_Model_end_174 : decode bb_Model_end 174 = .ok (.iload_n 2, 1) := by decide +kernel
theorem dd_Model_end_175 : decode bb_Model_end 175 = .ok (.i2l, 1) := by decide +kernel
theorem dd_Model_end_176 : decode bb_Model_end 176 = .ok (.goto 65, 3) := by decide +kernel
theorem dd_Model_end_179 : decode bb_Model_end 179 = .ok (.iload 10, 2) := by decide +kernel
theorem dd_Model_end_181 : decode bb_Model_end 181 = .ok (.iconst 1, 1) := by decide +kernel
theorem dd_Model_end_182 : decode bb_Model_end 182 = .ok (.if_icmp .ne 8, 3) := by decide +kernel
theorem dd_Model_end_185 : decode bb_Model_end 185 = .ok (.iload_n 3, 1) := by decide +kernel
theorem dd_Model_end_186 : decode bb_Model_end 186 = .ok (.i2l, 1) := by decide +kernel
theorem dd_Model_end_187 : decode bb_Model_end 187 = .ok (.goto 54, 3) := by decide +kernel
theorem dd_Model_end_190 : decode bb_Model_end 190 = .ok (.iload 10, 2) := by decide +kernel
theorem dd_Model_end_192 : decode bb_Model_end 192 = .ok (.iconst 2, 1) := by decide +kernel
theorem dd_Model_end_193 : decode bb_Model_end 193 = .ok (.if_icmp .ne 9, 3) := by decide +kernel
theorem dd_Model_end_196 : decode bb_Model_end 196 = .ok (.iload 4, 2) := by decide +kernel
theorem dd_Model_end_198 : decode bb_Model_end 198 = .ok (.i2l, 1) := by decide +kernel
theorem dd_Model_end_199 : decode bb_Model_end 199 = .ok (.goto 42, 3) := by decide +kernel
theorem dd_Model_end_202 : decode bb_Model_end 202 = .ok (.iload 10, 2) := by decide +kernel
theorem dd_Model_end_204 : decode bb_Model_end 204 = .ok (.iconst 3, 1) := by decide +kernel
theorem dd_Model_end_205 : decode bb_Model_end 205 = .ok (.if_icmp .ne 9, 3) := by decide +kernel
theorem dd_Model_end_208 : decode bb_Model_end 208 = .ok (.iload 5, 2) := by decide +kernel
theorem dd_Model_end_210 : decode bb_Model_end 210 = .ok (.i2l, 1) := by decide +kernel
theorem dd_Model_end_211 : decode bb_Model_end 211 = .ok (.goto 30, 3) := by decide +kernel
theorem dd_Model_end_214 : decode bb_Model_end 214 = .ok (.iload 10, 2) := by decide +kernel
theorem dd_Model_end_216 : decode bb_Model_end 216 = .ok (.iconst 4, 1) := by decide +kernel
theorem dd_Model_end_217 : decode bb_Model_end 217 = .ok (.if_icmp .ne 9, 3) := by decide +kernel
theorem dd_Model_end_220 : decode bb_Model_end 220 = .ok (.iload 6, 2) := by decide +kernel
theorem dd_Model_end_222 : decode bb_Model_end 222 = .ok (.i2l, 1) := by decide +kernel
theorem dd_Model_end_223 : decode bb_Model_end 223 = .ok (.goto 18, 3) := by decide +kernel
theorem dd_Model_end_226 : decode bb_Model_end 226 = .ok (.iload 10, 2) := by decide +kernel
theorem dd_Model_end_228 : decode bb_Model_end 228 = .ok (.iconst 5, 1) := by decide +kernel
theorem dd_Model_end_229 : decode bb_Model_end 229 = .ok (.if_icmp .ne 9, 3) := by decide +kernel
theorem dd_Model_end_232 : decode bb_Model_end 232 = .ok (.iload 7, 2) := by decide +kernel
theorem dd_Model_end_234 : decode bb_Model_end 234 = .ok (.i2l, 1) := by decide +kernel
theorem dd_Model_end_235 : decode bb_Model_end 235 = .ok (.goto 6, 3) := by decide +kernel
theorem dd_Model_end_238 : decode bb_Model_end 238 = .ok (.iload 8, 2) := by decide +kernel
theorem dd_Model_end_240 : decode bb_Model_end 240 = .ok (.i2l, 1) := by decide +kernel
theorem dd_Model_end_241 : decode bb_Model_end 241 = .ok (.lastore, 1) := by decide +kernel
theorem dd_Model_end_242 : decode bb_Model_end 242 = .ok (.iinc 10 1, 3) := by decide +kernel
theorem dd_Model_end_245 : decode bb_Model_end 245 = .ok (.goto (-108), 3) := by decide +kernel
theorem dd_Model_end_248 : decode bb_Model_end 248 = .ok (.return_, 1) := by decide +kernel
theorem dd_Model_clear_0 : decode bb_Model_clear 0 = .ok (.aload_n 0, 1) := by decide +kernel
theorem dd_Model_clear_1 : decode bb_Model_clear 1 = .ok (.iload_n 1, 1) := by decide +kernel
theorem dd_Model_clear_2 : decode bb_Model_clear 2 = .ok (.invokestatic 148, 3) := by decide +kernel
theorem dd_Model_clear_5 : decode bb_Model_clear 5 = .ok (.ifCond .eq 7, 3) := by decide +kernel
theorem dd_Model_clear_8 : decode bb_Model_clear 8 = .ok (.iconst 0, 1) := by decide +kernel
theorem dd_Model_clear_9 : decode bb_Model_clear 9 = .ok (.goto 4, 3) := by decide +kernel
theorem dd_Model_clear_12 : decode bb_Model_clear 12 = .ok (.iconst 1, 1) := by decide +kernel
theorem dd_Model_clear_13 : decode bb_Model_clear 13 = .ok (.putfield 76, 3) := by decide +kernel
theorem dd_Model_clear_16 : decode bb_Model_clear 16 = .ok (.aload_n 0, 1) := by decide +kernel
theorem dd_Model_clear_17 : decode bb_Model_clear 17 = .ok (.getfield 76, 3) := by decide +kernel
theorem dd_Model_clear_20 : decode bb_Model_clear 20 = .ok (.ifCond .ne 10, 3) := by decide +kernel
theorem dd_Model_clear_23 : decode bb_Model_clear 23 = .ok (.aload_n 0, 1) := by decide +kernel
theorem dd_Model_clear_24 : decode bb_Model_clear 24 = .ok (.getfield 52, 3) := by decide +kernel
theorem dd_Model_clear_27 : decode bb_Model_clear 27 = .ok (.iload_n 1, 1) := by decide +kernel
theorem dd_Model_clear_28 : decode bb_Model_clear 28 = .ok (.iconst 0, 1) := by decide +kernel
theorem dd_Model_clear_29 : decode bb_Model_clear 29 = .ok (.iastore, 1) := by decide +kernel
theorem dd_Model_clear_30 : decode bb_Model_clear 30 = .ok (.return_, 1) := by decide +kernel
theorem dd_Model_isEnd_0 : decode bb_Model_isEnd 0 = .ok (.aload_n 0, 1) := by decide +kernel
theorem dd_Model_isEnd_1 : decode bb_Model_isEnd 1 = .ok (.getfield 67, 3) := by decide +kernel
theorem dd_Model_isEnd_4 : decode bb_Model_isEnd 4 = .ok (.bipush 7, 2) := by decide +kernel
theorem dd_Model_isEnd_6 : decode bb_Model_isEnd 6 = .ok (.iload_n 1, 1) := by decide +kernel
theorem dd_Model_isEnd_7 : decode bb_Model_isEnd 7 = .ok (.imul, 1) := by decide +kernel
theorem dd_Model_isEnd_8 : decode bb_Model_isEnd 8 = .ok (.laload, 1) := by decide +kernel
theorem dd_Model_isEnd_9 : decode bb_Model_isEnd 9 = .ok (.lstore 7, 2) := by decide +kernel
theorem dd_Model_isEnd_11 : decode bb_Model_isEnd 11 = .ok (.lconst 0, 1) := by decide +kernel
theorem dd_Model_isEnd_12 : decode bb_Model_isEnd 12 = .ok (.lstore 9, 2) := by decide +kernel
theorem dd_Model_isEnd_14 : decode bb_Model_isEnd 14 = .ok (.iconst 0, 1) := by decide +kernel
theorem dd_Model_isEnd_15 : decode bb_Model_isEnd 15 = .ok (.istore 11, 2) := by decide +kernel
theorem dd_Model_isEnd_17 : decode bb_Model_isEnd 17 = .ok (.iload 11, 2) := by decide +kernel
theorem dd_Model_isEnd_19 : decode bb_Model_isEnd 19 = .ok (.aload_n 0, 1) := by decide +kernel
theorem dd_Model_isEnd_20 : decode bb_Model_isEnd 20 = .ok (.getfield 83, 3) := by decide +kernel
theorem dd_Model_isEnd_23 : decode bb_Model_isEnd 23 = .ok (.if_icmp .ge 37, 3) := by decide +kernel
theorem dd_Model_isEnd_26 : decode bb_Model_isEnd 26 = .ok (.lload 9, 2) := by decide +kernel
theorem dd_Model_isEnd_28 : decode bb_Model_isEnd 28 = .ok (.aload_n 0, 1) := by decide +kernel
theorem dd_Model_isEnd_29 : decode bb_Model_isEnd 29 = .ok (.getfield 67, 3) := by decide +kernel
theorem dd_Model_isEnd_32 : decode bb_Model_isEnd 32 = .ok (.bipush 7, 2) := by decide +kernel
theorem dd_Model_isEnd_34 : decode bb_Model_isEnd 34 = .ok (.iload_n 1, 1) := by decide +kernel
theorem dd_Model_isEnd_35 : decode bb_Model_isEnd 35 = .ok (.imul, 1) := by decide +kernel
theorem dd_Model_isEnd_36 : decode bb_Model_isEnd 36 = .ok (.iconst 1, 1) := by decide +kernel
theorem dd_Model_isEnd_37 : decode bb_Model_isEnd 37 = .ok (.iadd, 1) := by decide +kernel
theorem dd_Model_isEnd_38 : decode bb_Model_isEnd 38 = .ok (.iload 11, 2) := by decide +kernel
theorem dd_Model_isEnd_40 : decode bb_Model_isEnd 40 = .ok (.iadd, 1) := by decide +kernel
theorem dd_Model_isEnd_41 : decode bb_Model_isEnd 41 = .ok (.laload, 1) := by decide +kernel
theorem dd_Model_isEnd_42 : decode bb_Model_isEnd 42 = .ok (.aload_n 0, 1) := by decide +kernel
theorem dd_Model_isEnd_43 : decode bb_Model_isEnd 43 = .ok (.getfield 30, 3) := by decide +kernel
theorem dd_Model_isEnd_46 : decode bb_Model_isEnd 46 = .ok (.iload 11, 2) := by decide +kernel
theorem dd_Model_isEnd_48 : decode bb_Model_isEnd 48 = .ok (.iaload, 1) := by decide +kernel
theorem dd_Model_isEnd_49 : decode bb_Model_isEnd 49 = .ok (.i2l, 1) := by decide +kernel
theorem dd_Model_isEnd_50 : decode bb_Model_isEnd 50 = .ok (.lmul, 1) := by decide +kernel
theorem dd_Model_isEnd_51 : decode bb_Model_isEnd 51 = .ok (.lsub, 1) := by decide +kernel
theorem dd_Model_isEnd_52 : decode bb_Model_isEnd 52 = .ok (.lstore 9, 2) := by decide +kernel
theorem dd_Model_isEnd_54 : decode bb_Model_isEnd 54 = .ok (.iinc 11 1, 3) := by decide +kernel
theorem dd_Model_isEnd_57 : decode bb_Model_isEnd 57 = .ok (.goto (-40), 3) := by decide +kernel
theorem dd_Model_isEnd_60 : decode bb_Model_isEnd 60 = .ok (.iconst 0, 1) := by decide +kernel
theorem dd_Model_isEnd_61 : decode bb_Model_isEnd 61 = .ok (.istore 11, 2) := by decide +kernel
theorem dd_Model_isEnd_63 : decode bb_Model_isEnd 63 = .ok (.iload 11, 2) := by decide +kernel
theorem dd_Model_isEnd_65 : decode bb_Model_isEnd 65 = .ok (.aload_n 0, 1) := by decide +kernel
theorem dd_Model_isEnd_66 : decode bb_Model_isEnd 66 = .ok (.getfield 7, 3) := by decide +kernel
theorem dd_Model_isEnd_69 : decode bb_Model_isEnd 69 = .ok (.if_icmp .ge 106, 3) := by decide +kernel
theorem dd_Model_isEnd_72 : decode bb_Model_isEnd 72 = .ok (.lload 7, 2) := by decide +kernel
theorem dd_Model_isEnd_74 : decode bb_Model_isEnd 74 = .ok (.aload_n 0, 1) := by decide +kernel
theorem dd_Model_isEnd_75 : decode bb_Model_isEnd 75 = .ok (.getfield 24, 3) := by decide +kernel
theorem dd_Model_isEnd_78 : decode bb_Model_isEnd 78 = .ok (.iload 11, 2) := by decide +kernel
theorem dd_Model_isEnd_80 : decode bb_Model_isEnd 80 = .ok (.iaload, 1) := by decide +kernel
theorem dd_Model_isEnd_81 : decode bb_Model_isEnd 81 = .ok (.i2l, 1) := by decide +kernel
theorem dd_Model_isEnd_82 : decode bb_Model_isEnd 82 = .ok (.lmul, 1) := by decide +kernel
theorem dd_Model_isEnd_83 : decode bb_Model_isEnd 83 = .ok (.lstore 12, 2) := by decide +kernel
theorem dd_Model_isEnd_85 : decode bb_Model_isEnd 85 = .ok (.iconst 0, 1) := by decide +kernel
theorem dd_Model_isEnd_86 : decode bb_Model_isEnd 86 = .ok (.istore 14, 2) := by decide +kernel
theorem dd_Model_isEnd_88 : decode bb_Model_isEnd 88 = .ok (.iload 14, 2) := by decide +kernel
theorem dd_Model_isEnd_90 : decode bb_Model_isEnd 90 = .ok (.aload_n 0, 1) := by decide +kernel
theorem dd_Model_isEnd_91 : decode bb_Model_isEnd 91 = .ok (.getfield 83, 3) := by decide +kernel
theorem dd_Model_isEnd_94 : decode bb_Model_isEnd 94 = .ok (.if_icmp .ge 42, 3) := by decide +kernel
theorem dd_Model_isEnd_97 : decode bb_Model_isEnd 97 = .ok (.lload 12, 2) := by decide +kernel
theorem dd_Model_isEnd_99 : decode bb_Model_isEnd 99 = .ok (.aload_n 0, 1) := by decide +kernel
theorem dd_Model_isEnd_100 : decode bb_Model_isEnd 100 = .ok (.getfield 67, 3) := by decide +kernel
theorem dd_Model_isEnd_103 : decode bb_Model_isEnd 103 = .ok (.bipush 7, 2) := by decide +kernel
theorem dd_Model_isEnd_105 : decode bb_Model_isEnd 105 = .ok (.iload_n 1, 1) := by decide +kernel
theorem dd_Model_isEnd_106 : decode bb_Model_isEnd 106 = .ok (.imul, 1) := by decide +kernel
theorem dd_Model_isEnd_107 : decode bb_Model_isEnd 107 = .ok (.iconst 1, 1) := by decide +kernel
theorem dd_Model_isEnd_108 : decode bb_Model_isEnd 108 = .ok (.iadd, 1) := by decide +kernel
theorem dd_Model_isEnd_109 : decode bb_Model_isEnd 109 = .ok (.iload 14, 2) := by decide +kernel
theorem dd_Model_isEnd_111 : decode bb_Model_isEnd 111 = .ok (.iadd, 1) := by decide +kernel
theorem dd_Model_isEnd_112 : decode bb_Model_isEnd 112 = .ok (.laload, 1) := by decide +kernel
theorem dd_Model_isEnd_113 : decode bb_Model_isEnd 113 = .ok (.aload_n 0, 1) := by decide +kernel
theorem dd_Model_isEnd_114 : decode bb_Model_isEnd 114 = .ok (.getfield 27, 3) := by decide +kernel
theorem dd_Model_isEnd_117 : decode bb_Model_isEnd 117 = .ok (.iconst 4, 1) := by decide +kernel
theorem dd_Model_isEnd_118 : decode bb_Model_isEnd 118 = .ok (.iload 14, 2) := by decide +kernel
theorem dd_Model_isEnd_120 : decode bb_Model_isEnd 120 = .ok (.imul, 1) := by decide +kernel
theorem dd_Model_isEnd_121 : decode bb_Model_isEnd 121 = .ok (.iload 11, 2) := by decide +kernel
theorem dd_Model_isEnd_123 : decode bb_Model_isEnd 123 = .ok (.iadd, 1) := by decide +kernel
theorem dd_Model_isEnd_124 : decode bb_Model_isEnd 124 = .ok (.iaload, 1) := by decide +kernel
theorem dd_Model_isEnd_125 : decode bb_Model_isEnd 125 = .ok (.i2l, 1) := by decide +kernel
theorem dd_Model_isEnd_126 : decode bb_Model_isEnd 126 = .ok (.lmul, 1) := by decide +kernel
theorem dd_Model_isEnd_127 : decode bb_Model_isEnd 127 = .ok (.ladd, 1) := by decide +kernel
theorem dd_Model_isEnd_128 : decode bb_Model_isEnd 128 = .ok (.lstore 12, 2) := by decide +kernel
theorem dd_Model_isEnd_130 : decode bb_Model_isEnd 130 = .ok (.iinc 14 1, 3) := by decide +kernel
theorem dd_Model_isEnd_133 : decode bb_Model_isEnd 133 = .ok (.goto (-45), 3) := by decide +kernel
theorem dd_Model_isEnd_136 : decode bb_Model_isEnd 136 = .ok (.lload 9, 2) := by decide +kernel
theorem dd_Model_isEnd_138 : decode bb_Model_isEnd 138 = .ok (.lload 12, 2) := by decide +kernel
theorem dd_Model_isEnd_140 : decode bb_Model_isEnd 140 = .ok (.aload_n 0, 1) := by decide +kernel
theorem dd_Model_isEnd_141 : decode bb_Model_isEnd 141 = .ok (.getfield 70, 3) := by decide +kernel
theorem dd_Model_isEnd_144 : decode bb_Model_isEnd 144 = .ok (.iload_n 2, 1) := by decide +kernel
theorem dd_Model_isEnd_145 : decode bb_Model_isEnd 145 = .ok (.iconst 1, 1) := by decide +kernel
theorem dd_Model_isEnd_146 : decode bb_Model_isEnd 146 = .ok (.iadd, 1) := by decide +kernel
theorem dd_Model_isEnd_147 : decode bb_Model_isEnd 147 = .ok (.lload 12, 2) := by decide +kernel
theorem dd_Model_isEnd_149 : decode bb_Model_isEnd 149 = .ok (.lconst 0, 1) := by decide +kernel
theorem dd_Model_isEnd_150 : decode bb_Model_isEnd 150 = .ok (.lcmp, 1) := by decide +kernel
theorem dd_Model_isEnd_151 : decode bb_Model_isEnd 151 = .ok (.ifCond .ge 7, 3) := by decide +kernel
theorem dd_Model_isEnd_154 : decode bb_Model_isEnd 154 = .ok (.iconst 4, 1) := by decide +kernel
theorem dd_Model_isEnd_155 : decode bb_Model_isEnd 155 = .ok (.goto 4, 3) := by decide +kernel
theorem dd_Model_isEnd_158 : decode bb_Model_isEnd 158 = .ok (.iconst 0, 1) := by decide +kernel
theorem dd_Model_isEnd_159 : decode bb_Model_isEnd 159 = .ok (.iadd, 1) := by decide +kernel
theorem dd_Model_isEnd_160 : decode bb_Model_isEnd 160 = .ok (.iload 11, 2) := by decide +kernel
theorem dd_Model_isEnd_162 : decode bb_Model_isEnd 162 = .ok (.iadd, 1) := by decide +kernel
theorem dd_Model_isEnd_163 : decode bb_Model_isEnd 163 = .ok (.iaload, 1) := by decide +kernel
theorem dd_Model_isEnd_164 : decode bb_Model_isEnd 164 = .ok (.i2l, 1) := by decide +kernel
theorem dd_Model_isEnd_165 : decode bb_Model_isEnd 165 = .ok (.lmul, 1) := by decide +kernel
theorem dd_Model_isEnd_166 : decode bb_Model_isEnd 166 = .ok (.ladd, 1) := by decide +kernel
theorem dd_Model_isEnd_167 : decode bb_Model_isEnd 167 = .ok (.lstore 9, 2) := by decide +kernel
theorem dd_Model_isEnd_169 : decode bb_Model_isEnd 169 = .ok (.iinc 11 1, 3) := by decide +kernel
theorem dd_Model_isEnd_172 : decode bb_Model_isEnd 172 = .ok (.goto (-109), 3) := by decide +kernel
theorem dd_Model_isEnd_175 : decode bb_Model_isEnd 175 = .ok (.lload 7, 2) := by decide +kernel
theorem dd_Model_isEnd_177 : decode bb_Model_isEnd 177 = .ok (.lconst 0, 1) := by decide +kernel
theorem dd_Model_isEnd_178 : decode bb_Model_isEnd 178 = .ok (.lcmp, 1) := by decide +kernel
theorem dd_Model_isEnd_179 : decode bb_Model_isEnd 179 = .ok (.ifCond .ne 18, 3) := by decide +kernel
theorem dd_Model_isEnd_182 : decode bb_Model_isEnd 182 = .ok (.lload 9, 2) := by decide +kernel
theorem dd_Model_isEnd_184 : decode bb_Model_isEnd 184 = .ok (.lconst 0, 1) := by decide +kernel
theorem dd_Model_isEnd_185 : decode bb_Model_isEnd 185 = .ok (.lcmp, 1) := by decide +kernel
theorem dd_Model_isEnd_186 : decode bb_Model_isEnd 186 = .ok (.ifCond .le 7, 3) := by decide +kernel
theorem dd_Model_isEnd_189 : decode bb_Model_isEnd 189 = .ok (.iconst 1, 1) := by decide +kernel
theorem dd_Model_isEnd_190 : decode bb_Model_isEnd 190 = .ok (.goto 25, 3) := by decide +kernel
theorem dd_Model_isEnd_193 : decode bb_Model_isEnd 193 = .ok (.iconst 0, 1) := by decide +kernel
theorem dd_Model_isEnd_194 : decode bb_Model_isEnd 194 = .ok (.goto 21, 3) := by decide +kernel
theorem dd_Model_isEnd_197 : decode bb_Model_isEnd 197 = .ok (.lload 5, 2) := by decide +kernel
theorem dd_Model_isEnd_199 : decode bb_Model_isEnd 199 = .ok (.lload 9, 2) := by decide +kernel
theorem dd_Model_isEnd_201 : decode bb_Model_isEnd 201 = .ok (.lmul, 1) := by decide +kernel
theorem dd_Model_isEnd_202 : decode bb_Model_isEnd 202 = .ok (.lload 7, 2) := by decide +kernel
theorem dd_Model_isEnd_204 : decode bb_Model_isEnd 204 = .ok (.lload_n 3, 1) := by decide +kernel
theorem dd_Model_isEnd_205 : decode bb_Model_isEnd 205 = .ok (.lmul, 1) := by decide +kernel
theorem dd_Model_isEnd_206 : decode bb_Model_isEnd 206 = .ok (.lcmp, 1) := by decide +kernel
theorem dd_Model_isEnd_207 : decode bb_Model_isEnd 207 = .ok (.ifCond .lt 7, 3) := by decide +kernel
theorem dd_Model_isEnd_210 : decode bb_Model_isEnd 210 = .ok (.iconst 1, 1) := by decide +kernel
theorem dd_Model_isEnd_211 : decode bb_Model_isEnd 211 = .ok (.goto 4, 3) := by decide +kernel
theorem dd_Model_isEnd_214 : decode bb_Model_isEnd 214 = .ok (.iconst 0, 1) := by decide +kernel
theorem dd_Model_isEnd_215 : decode bb_Model_isEnd 215 = .ok (.ireturn, 1) := by decide +kernel
theorem dd_Model_sound_0 : decode bb_Model_sound 0 = .ok (.aload_n 0, 1) := by decide +kernel
theorem dd_Model_sound_1 : decode bb_Model_sound 1 = .ok (.iload_n 1, 1) := by decide +kernel
theorem dd_Model_sound_2 : decode bb_Model_sound 2 = .ok (.ldc 153, 2) := by decide +kernel
theorem dd_Model_sound_4 : decode bb_Model_sound 4 = .ok (.ldc 152, 2) := by decide +kernel
theorem dd_Model_sound_6 : decode bb_Model_sound 6 = .ok (.invokestatic 79, 3) := by decide +kernel
theorem dd_Model_sound_9 : decode bb_Model_sound 9 = .ok (.ifCond .eq 17, 3) := by decide +kernel
theorem dd_Model_sound_12 : decode bb_Model_sound 12 = .ok (.iload_n 2, 1) := by decide +kernel
theorem dd_Model_sound_13 : decode bb_Model_sound 13 = .ok (.iconst 1, 1) := by decide +kernel
theorem dd_Model_sound_14 : decode bb_Model_sound 14 = .ok (.ldc 152, 2) := by decide +kernel
theorem dd_Model_sound_16 : decode bb_Model_sound 16 = .ok (.invokestatic 79, 3) := by decide +kernel
theorem dd_Model_sound_19 : decode bb_Model_sound 19 = .ok (.ifCond .eq 7, 3) := by decide +kernel
theorem dd_Model_sound_22 : decode bb_Model_sound 22 = .ok (.iconst 0, 1) := by decide +kernel
theorem dd_Model_sound_23 : decode bb_Model_sound 23 = .ok (.goto 4, 3) := by decide +kernel
theorem dd_Model_sound_26 : decode bb_Model_sound 26 = .ok (.iconst 1, 1) := by decide +kernel
theorem dd_Model_sound_27 : decode bb_Model_sound 27 = .ok (.putfield 76, 3) := by decide +kernel
theorem dd_Model_sound_30 : decode bb_Model_sound 30 = .ok (.aload_n 0, 1) := by decide +kernel
theorem dd_Model_sound_31 : decode bb_Model_sound 31 = .ok (.getfield 76, 3) := by decide +kernel
theorem dd_Model_sound_34 : decode bb_Model_sound 34 = .ok (.ifCond .le 5, 3) := by decide +kernel
theorem dd_Model_sound_37 : decode bb_Model_sound 37 = .ok (.iconst 0, 1) := by decide +kernel
theorem dd_Model_sound_38 : decode bb_Model_sound 38 = .ok (.ireturn, 1) := by decide +kernel
theorem dd_Model_sound_39 : decode bb_Model_sound 39 = .ok (.aload_n 0, 1) := by decide +kernel
theorem dd_Model_sound_40 : decode bb_Model_sound 40 = .ok (.getfield 70, 3) := by decide +kernel
theorem dd_Model_sound_43 : decode bb_Model_sound 43 = .ok (.iconst 0, 1) := by decide +kernel
theorem dd_Model_sound_44 : decode bb_Model_sound 44 = .ok (.iconst 0, 1) := by decide +kernel
theorem dd_Model_sound_45 : decode bb_Model_sound 45 = .ok (.iastore, 1) := by decide +kernel
theorem dd_Model_sound_46 : decode bb_Model_sound 46 = .ok (.iconst 0, 1) := by decide +kernel
theorem dd_Model_sound_47 : decode bb_Model_sound 47 = .ok (.istore_n 3, 1) := by decide +kernel
theorem dd_Model_sound_48 : decode bb_Model_sound 48 = .ok (.iload_n 3, 1) := by decide +kernel
theorem dd_Model_sound_49 : decode bb_Model_sound 49 = .ok (.iconst 4, 1) := by decide +kernel
theorem dd_Model_sound_50 : decode bb_Model_sound 50 = .ok (.if_icmp .ge 37, 3) := by decide +kernel
theorem dd_Model_sound_53 : decode bb_Model_sound 53 = .ok (.aload_n 0, 1) := by decide +kernel
theorem dd_Model_sound_54 : decode bb_Model_sound 54 = .ok (.getfield 70, 3) := by decide +kernel
theorem dd_Model_sound_57 : decode bb_Model_sound 57 = .ok (.iconst 1, 1) := by decide +kernel
theorem dd_Model_sound_58 : decode bb_Model_sound 58 = .ok (.iload_n 3, 1) := by decide +kernel
theorem dd_Model_sound_59 : decode bb_Model_sound 59 = .ok (.iadd, 1) := by decide +kernel
theorem dd_Model_sound_60 : decode bb_Model_sound 60 = .ok (.aload_n 0, 1) := by decide +kernel
theorem dd_Model_sound_61 : decode bb_Model_sound 61 = .ok (.getfield 13, 3) := by decide +kernel
theorem dd_Model_sound_64 : decode bb_Model_sound 64 = .ok (.iload_n 3, 1) := by decide +kernel
theorem dd_Model_sound_65 : decode bb_Model_sound 65 = .ok (.iaload, 1) := by decide +kernel
theorem dd_Model_sound_66 : decode bb_Model_sound 66 = .ok (.iastore, 1) := by decide +kernel
theorem dd_Model_sound_67 : decode bb_Model_sound 67 = .ok (.aload_n 0, 1) := by decide +kernel
theorem dd_Model_sound_68 : decode bb_Model_sound 68 = .ok (.getfield 70, 3) := by decide +kernel
theorem dd_Model_sound_71 : decode bb_Model_sound 71 = .ok (.iconst 5, 1) := by decide +kernel
theorem dd_Model_sound_72 : decode bb_Model_sound 72 = .ok (.iload_n 3, 1) := by decide +kernel
theorem dd_Model_sound_73 : decode bb_Model_sound 73 = .ok (.iadd, 1) := by decide +kernel
theorem dd_Model_sound_74 : decode bb_Model_sound 74 = .ok (.aload_n 0, 1) := by decide +kernel
theorem dd_Model_sound_75 : decode bb_Model_sound 75 = .ok (.getfield 17, 3) := by decide +kernel
theorem dd_Model_sound_78 : decode bb_Model_sound 78 = .ok (.iload_n 3, 1) := by decide +kernel
theorem dd_Model_sound_79 : decode bb_Model_sound 79 = .ok (.iaload, 1) := by decide +kernel
theorem dd_Model_sound_80 : decode bb_Model_sound 80 = .ok (.iastore, 1) := by decide +kernel
theorem dd_Model_sound_81 : decode bb_Model_sound 81 = .ok (.iinc 3 1, 3) := by decide +kernel
theorem dd_Model_sound_84 : decode bb_Model_sound 84 = .ok (.goto (-36), 3) := by decide +kernel
theorem dd_Model_sound_87 : decode bb_Model_sound 87 = .ok (.iconst 1, 1) := by decide +kernel
theorem dd_Model_sound_88 : decode bb_Model_sound 88 = .ok (.istore_n 3, 1) := by decide +kernel
theorem dd_Model_sound_89 : decode bb_Model_sound 89 = .ok (.iload_n 3, 1) := by decide +kernel
theorem dd_Model_sound_90 : decode bb_Model_sound 90 = .ok (.ifCond .le 252, 3) := by decide +kernel
theorem dd_Model_sound_93 : decode bb_Model_sound 93 = .ok (.iinc 3 (-1), 3) := by decide +kernel
theorem dd_Model_sound_96 : decode bb_Model_sound 96 = .ok (.bipush 9, 2) := by decide +kernel
theorem dd_Model_sound_98 : decode bb_Model_sound 98 = .ok (.iload_n 3, 1) := by decide +kernel
theorem dd_Model_sound_99 : decode bb_Model_sound 99 = .ok (.imul, 1) := by decide +kernel
theorem dd_Model_sound_100 : decode bb_Model_sound 100 = .ok (.istore 4, 2) := by decide +kernel
theorem dd_Model_sound_102 : decode bb_Model_sound 102 = .ok (.aload_n 0, 1) := by decide +kernel
theorem dd_Model_sound_103 : decode bb_Model_sound 103 = .ok (.getfield 70, 3) := by decide +kernel
theorem dd_Model_sound_106 : decode bb_Model_sound 106 = .ok (.iload 4, 2) := by decide +kernel
theorem dd_Model_sound_108 : decode bb_Model_sound 108 = .ok (.iaload, 1) := by decide +kernel
theorem dd_Model_sound_109 : decode bb_Model_sound 109 = .ok (.istore 5, 2) := by decide +kernel
theorem dd_Model_sound_111 : decode bb_Model_sound 111 = .ok (.aload_n 0, 1) := by decide +kernel
theorem dd_Model_sound_112 : decode bb_Model_sound 112 = .ok (.getfield 52, 3) := by decide +kernel
theorem dd_Model_sound_115 : decode bb_Model_sound 115 = .ok (.iload 5, 2) := by decide +kernel
theorem dd_Model_sound_117 : decode bb_Model_sound 117 = .ok (.iaload, 1) := by decide +kernel
theorem dd_Model_sound_118 : decode bb_Model_sound 118 = .ok (.ifCond .eq 29, 3) := by decide +kernel
theorem dd_Model_sound_121 : decode bb_Model_sound 121 = .ok (.aload_n 0, 1) := by decide +kernel
theorem dd_Model_sound_122 : decode bb_Model_sound 122 = .ok (.getfield 52, 3) := by decide +kernel
theorem dd_Model_sound_125 : decode bb_Model_sound 125 = .ok (.iload 5, 2) := by decide +kernel
theorem dd_Model_sound_127 : decode bb_Model_sound 127 = .ok (.iaload, 1) := by decide +kernel
theorem dd_Model_sound_128 : decode bb_Model_sound 128 = .ok (.iconst 2, 1) := by decide +kernel
theorem dd_Model_sound_129 : decode bb_Model_sound 129 = .ok (.if_icmp .ne 20, 3) := by decide +kernel
theorem dd_Model_sound_132 : decode bb_Model_sound 132 = .ok (.aload_n 0, 1) := by decide +kernel
theorem dd_Model_sound_133 : decode bb_Model_sound 133 = .ok (.iload 5, 2) := by decide +kernel
theorem dd_Model_sound_135 : decode bb_Model_sound 135 = .ok (.iload 4, 2) := by decide +kernel
