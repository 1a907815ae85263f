theorem dd_Search_init_0 : decode bb_Search_init 0 = .ok (.aload_n 0, 1) := by decide +kernel
theorem dd_Search_init_1 : decode bb_Search_init 1 = .ok (.invokespecial 3, 3) := by decide +kernel
theorem dd_Search_init_4 : decode bb_Search_init 4 = .ok (.aload_n 0, 1) := by decide +kernel
theorem dd_Search_init_5 : decode bb_Search_init 5 = .ok (.iconst 0, 1) := by decide +kernel
theorem dd_Search_init_6 : decode bb_Search_init 6 = .ok (.putfield 9, 3) := by decide +kernel
theorem dd_Search_init_9 : decode bb_Search_init 9 = .ok (.aload_n 0, 1) := by decide +kernel
theorem dd_Search_init_10 : decode bb_Search_init 10 = .ok (.iconst 4, 1) := by decide +kernel
theorem dd_Search_init_11 : decode bb_Search_init 11 = .ok (.newarray .int, 2) := by decide +kernel
theorem dd_Search_init_13 : decode bb_Search_init 13 = .ok (.putfield 15, 3) := by decide +kernel
theorem dd_Search_init_16 : decode bb_Search_init 16 = .ok (.aload_n 0, 1) := by decide +kernel
theorem dd_Search_init_17 : decode bb_Search_init 17 = .ok (.iconst 1, 1) := by decide +kernel
theorem dd_Search_init_18 : decode bb_Search_init 18 = .ok (.putfield 19, 3) := by decide +kernel
theorem dd_Search_init_21 : decode bb_Search_init 21 = .ok (.aload_n 0, 1) := by decide +kernel
theorem dd_Search_init_22 : decode bb_Search_init 22 = .ok (.iconst 0, 1) := by decide +kernel
theorem dd_Search_init_23 : decode bb_Search_init 23 = .ok (.putfield 23, 3) := by decide +kernel
theorem dd_Search_init_26 : decode bb_Search_init 26 = .ok (.aload_n 0, 1) := by decide +kernel
theorem dd_Search_init_27 : decode bb_Search_init 27 = .ok (.iconst 0, 1) := by decide +kernel
theorem dd_Search_init_28 : decode bb_Search_init 28 = .ok (.putfield 26, 3) := by decide +kernel
theorem dd_Search_init_31 : decode bb_Search_init 31 = .ok (.aload_n 0, 1) := by decide +kernel
theorem dd_Search_init_32 : decode bb_Search_init 32 = .ok (.iconst 4, 1) := by decide +kernel
theorem dd_Search_init_33 : decode bb_Search_init 33 = .ok (.newarray .int, 2) := by decide +kernel
theorem dd_Search_init_35 : decode bb_Search_init 35 = .ok (.putfield 29, 3) := by decide +kernel
theorem dd_Search_init_38 : decode bb_Search_init 38 = .ok (.aload_n 0, 1) := by decide +kernel
theorem dd_Search_init_39 : decode bb_Search_init 39 = .ok (.bipush 6, 2) := by decide +kernel
theorem dd_Search_init_41 : decode bb_Search_init 41 = .ok (.newarray .int, 2) := by decide +kernel
theorem dd_Search_init_43 : decode bb_Search_init 43 = .ok (.putfield 32, 3) := by decide +kernel
theorem dd_Search_init_46 : decode bb_Search_init 46 = .ok (.aload_n 0, 1) := by decide +kernel
theorem dd_Search_init_47 : decode bb_Search_init 47 = .ok (.iconst 4, 1) := by decide +kernel
theorem dd_Search_init_48 : decode bb_Search_init 48 = .ok (.newarray .int, 2) := by decide +kernel
theorem dd_Search_init_50 : decode bb_Search_init 50 = .ok (.putfield 35, 3) := by decide +kernel
theorem dd_Search_init_53 : decode bb_Search_init 53 = .ok (.return_, 1) := by decide +kernel
theorem dd_Search_look_0 : decode bb_Search_look 0 = .ok (.aload_n 0, 1) := by decide +kernel
theorem dd_Search_look_1 : decode bb_Search_look 1 = .ok (.iconst 0, 1) := by decide +kernel
theorem dd_Search_look_2 : decode bb_Search_look 2 = .ok (.putfield 9, 3) := by decide +kernel
theorem dd_Search_look_5 : decode bb_Search_look 5 = .ok (.aload_n 0, 1) := by decide +kernel
theorem dd_Search_look_6 : decode bb_Search_look 6 = .ok (.iconst 1, 1) := by decide +kernel
theorem dd_Search_look_7 : decode bb_Search_look 7 = .ok (.putfield 19, 3) := by decide +kernel
theorem dd_Search_look_10 : decode bb_Search_look 10 = .ok (.aload_n 0, 1) := by decide +kernel
theorem dd_Search_look_11 : decode bb_Search_look 11 = .ok (.iconst 0, 1) := by decide +kernel
theorem dd_Search_look_12 : decode bb_Search_look 12 = .ok (.putfield 23, 3) := by decide +kernel
theorem dd_Search_look_15 : decode bb_Search_look 15 = .ok (.aload_n 0, 1) := by decide +kernel
theorem dd_Search_look_16 : decode bb_Search_look 16 = .ok (.iload_n 3, 1) := by decide +kernel
theorem dd_Search_look_17 : decode bb_Search_look 17 = .ok (.putfield 26, 3) := by decide +kernel
theorem dd_Search_look_20 : decode bb_Search_look 20 = .ok (.iconst 0, 1) := by decide +kernel
theorem dd_Search_look_21 : decode bb_Search_look 21 = .ok (.istore 4, 2) := by decide +kernel
theorem dd_Search_look_23 : decode bb_Search_look 23 = .ok (.iconst 0, 1) := by decide +kernel
theorem dd_Search_look_24 : decode bb_Search_look 24 = .ok (.istore 5, 2) := by decide +kernel
theorem dd_Search_look_26 : decode bb_Search_look 26 = .ok (.iload 5, 2) := by decide +kernel
theorem dd_Search_look_28 : decode bb_Search_look 28 = .ok (.aload_n 1, 1) := by decide +kernel
theorem dd_Search_look_29 : decode bb_Search_look 29 = .ok (.getfield 38, 3) := by decide +kernel
theorem dd_Search_look_32 : decode bb_Search_look 32 = .ok (.if_icmp .ge 34, 3) := by decide +kernel
theorem dd_Search_look_35 : decode bb_Search_look 35 = .ok (.aload_n 0, 1) := by decide +kernel
theorem dd_Search_look_36 : decode bb_Search_look 36 = .ok (.getfield 29, 3) := by decide +kernel
theorem dd_Search_look_39 : decode bb_Search_look 39 = .ok (.iload 5, 2) := by decide +kernel
theorem dd_Search_look_41 : decode bb_Search_look 41 = .ok (.aload_n 1, 1) := by decide +kernel
theorem dd_Search_look_42 : decode bb_Search_look 42 = .ok (.getfield 43, 3) := by decide +kernel
theorem dd_Search_look_45 : decode bb_Search_look 45 = .ok (.iload 5, 2) := by decide +kernel
theorem dd_Search_look_47 : decode bb_Search_look 47 = .ok (.iaload, 1) := by decide +kernel
theorem dd_Search_look_48 : decode bb_Search_look 48 = .ok (.iastore, 1) := by decide +kernel
theorem dd_Search_look_49 : decode bb_Search_look 49 = .ok (.iload 4, 2) := by decide +kernel
theorem dd_Search_look_51 : decode bb_Search_look 51 = .ok (.aload_n 1, 1) := by decide +kernel
theorem dd_Search_look_52 : decode bb_Search_look 52 = .ok (.iload 5, 2) := by decide +kernel
theorem dd_Search_look_54 : decode bb_Search_look 54 = .ok (.invokevirtual 46, 3) := by decide +kernel
theorem dd_Search_look_57 : decode bb_Search_look 57 = .ok (.iadd, 1) := by decide +kernel
theorem dd_Search_look_58 : decode bb_Search_look 58 = .ok (.istore 4, 2) := by decide +kernel
theorem dd_Search_look_60 : decode bb_Search_look 60 = .ok (.iinc 5 1, 3) := by decide +kernel
theorem dd_Search_look_63 : decode bb_Search_look 63 = .ok (.goto (-37), 3) := by decide +kernel
theorem dd_Search_look_66 : decode bb_Search_look 66 = .ok (.aload_n 0, 1) := by decide +kernel
theorem dd_Search_look_67 : decode bb_Search_look 67 = .ok (.aload_n 1, 1) := by decide +kernel
theorem dd_Search_look_68 : decode bb_Search_look 68 = .ok (.aload_n 2, 1) := by decide +kernel
theorem dd_Search_look_69 : decode bb_Search_look 69 = .ok (.iconst 0, 1) := by decide +kernel
theorem dd_Search_look_70 : decode bb_Search_look 70 = .ok (.iconst 0, 1) := by decide +kernel
theorem dd_Search_look_71 : decode bb_Search_look 71 = .ok (.iload 4, 2) := by decide +kernel
theorem dd_Search_look_73 : decode bb_Search_look 73 = .ok (.invokevirtual 50, 3) := by decide +kernel
theorem dd_Search_look_76 : decode bb_Search_look 76 = .ok (.return_, 1) := by decide +kernel
theorem dd_Search_settle_0 : decode bb_Search_settle 0 = .ok (.aload_n 0, 1) := by decide +kernel
theorem dd_Search_settle_1 : decode bb_Search_settle 1 = .ok (.aload_n 1, 1) := by decide +kernel
theorem dd_Search_settle_2 : decode bb_Search_settle 2 = .ok (.aload_n 0, 1) := by decide +kernel
theorem dd_Search_settle_3 : decode bb_Search_settle 3 = .ok (.getfield 29, 3) := by decide +kernel
theorem dd_Search_settle_6 : decode bb_Search_settle 6 = .ok (.iload 5, 2) := by decide +kernel
theorem dd_Search_settle_8 : decode bb_Search_settle 8 = .ok (.iconst 1, 1) := by decide +kernel
theorem dd_Search_settle_9 : decode bb_Search_settle 9 = .ok (.invokevirtual 54, 3) := by decide +kernel
theorem dd_Search_settle_12 : decode bb_Search_settle 12 = .ok (.ifCond .eq 14, 3) := by decide +kernel
theorem dd_Search_settle_15 : decode bb_Search_settle 15 = .ok (.aload_n 0, 1) := by decide +kernel
theorem dd_Search_settle_16 : decode bb_Search_settle 16 = .ok (.aload_n 1, 1) := by decide +kernel
theorem dd_Search_settle_17 : decode bb_Search_settle 17 = .ok (.iload_n 3, 1) := by decide +kernel
theorem dd_Search_settle_18 : decode bb_Search_settle 18 = .ok (.iload 4, 2) := by decide +kernel
theorem dd_Search_settle_20 : decode bb_Search_settle 20 = .ok (.invokevirtual 58, 3) := by decide +kernel
theorem dd_Search_settle_23 : decode bb_Search_settle 23 = .ok (.ifCond .ne 4, 3) := by decide +kernel
theorem dd_Search_settle_26 : decode bb_Search_settle 26 = .ok (.return_, 1) := by decide +kernel
theorem dd_Search_settle_27 : decode bb_Search_settle 27 = .ok (.iload_n 3, 1) := by decide +kernel
theorem dd_Search_settle_28 : decode bb_Search_settle 28 = .ok (.aload_n 1, 1) := by decide +kernel
theorem dd_Search_settle_29 : decode bb_Search_settle 29 = .ok (.getfield 38, 3) := by decide +kernel
theorem dd_Search_settle_32 : decode bb_Search_settle 32 = .ok (.if_icmp .lt 12, 3) := by decide +kernel
theorem dd_Search_settle_35 : decode bb_Search_settle 35 = .ok (.aload_n 0, 1) := by decide +kernel
theorem dd_Search_settle_36 : decode bb_Search_settle 36 = .ok (.aload_n 1, 1) := by decide +kernel
theorem dd_Search_settle_37 : decode bb_Search_settle 37 = .ok (.aload_n 2, 1) := by decide +kernel
theorem dd_Search_settle_38 : decode bb_Search_settle 38 = .ok (.iload 4, 2) := by decide +kernel
theorem dd_Search_settle_40 : decode bb_Search_settle 40 = .ok (.invokevirtual 62, 3) := by decide +kernel
theorem dd_Search_settle_43 : decode bb_Search_settle 43 = .ok (.return_, 1) := by decide +kernel
theorem dd_Search_settle_44 : decode bb_Search_settle 44 = .ok (.aload_n 1, 1) := by decide +kernel
theorem dd_Search_settle_45 : decode bb_Search_settle 45 = .ok (.getfield 66, 3) := by decide +kernel
theorem dd_Search_settle_48 : decode bb_Search_settle 48 = .ok (.iload_n 3, 1) := by decide +kernel
theorem dd_Search_settle_49 : decode bb_Search_settle 49 = .ok (.baload, 1) := by decide +kernel
theorem dd_Search_settle_50 : decode bb_Search_settle 50 = .ok (.ifCond .eq 14, 3) := by decide +kernel
theorem dd_Search_settle_53 : decode bb_Search_settle 53 = .ok (.aload_n 0, 1) := by decide +kernel
theorem dd_Search_settle_54 : decode bb_Search_settle 54 = .ok (.getfield 26, 3) := by decide +kernel
theorem dd_Search_settle_57 : decode bb_Search_settle 57 = .ok (.ifCond .ne 7, 3) := by decide +kernel
theorem dd_Search_settle_60 : decode bb_Search_settle 60 = .ok (.iconst 1, 1) := by decide +kernel
theorem dd_Search_settle_61 : decode bb_Search_settle 61 = .ok (.goto 4, 3) := by decide +kernel
theorem dd_Search_settle_64 : decode bb_Search_settle 64 = .ok (.iconst 0, 1) := by decide +kernel
theorem dd_Search_settle_65 : decode bb_Search_settle 65 = .ok (.istore 6, 2) := by decide +kernel
theorem dd_Search_settle_67 : decode bb_Search_settle 67 = .ok (.aload_n 1, 1) := by decide +kernel
theorem dd_Search_settle_68 : decode bb_Search_settle 68 = .ok (.getfield 43, 3) := by decide +kernel
theorem dd_Search_settle_71 : decode bb_Search_settle 71 = .ok (.iload_n 3, 1) := by decide +kernel
theorem dd_Search_settle_72 : decode bb_Search_settle 72 = .ok (.iaload, 1) := by decide +kernel
theorem dd_Search_settle_73 : decode bb_Search_settle 73 = .ok (.istore 7, 2) := by decide +kernel
theorem dd_Search_settle_75 : decode bb_Search_settle 75 = .ok (.aload_n 1, 1) := by decide +kernel
theorem dd_Search_settle_76 : decode bb_Search_settle 76 = .ok (.getfield 70, 3) := by decide +kernel
theorem dd_Search_settle_79 : decode bb_Search_settle 79 = .ok (.iload_n 3, 1) := by decide +kernel
theorem dd_Search_settle_80 : decode bb_Search_settle 80 = .ok (.iaload, 1) := by decide +kernel
theorem dd_Search_settle_81 : decode bb_Search_settle 81 = .ok (.iload 7, 2) := by decide +kernel
theorem dd_Search_settle_83 : decode bb_Search_settle 83 = .ok (.isub, 1) := by decide +kernel
theorem dd_Search_settle_84 : decode bb_Search_settle 84 = .ok (.istore 8, 2) := by decide +kernel
theorem dd_Search_settle_86 : decode bb_Search_settle 86 = .ok (.iload 5, 2) := by decide +kernel
theorem dd_Search_settle_88 : decode bb_Search_settle 88 = .ok (.aload_n 1, 1) := by decide +kernel
theorem dd_Search_settle_89 : decode bb_Search_settle 89 = .ok (.iload_n 3, 1) := by decide +kernel
theorem dd_Search_settle_90 : decode bb_Search_settle 90 = .ok (.invokevirtual 46, 3) := by decide +kernel
theorem dd_Search_settle_93 : decode bb_Search_settle 93 = .ok (.isub, 1) := by decide +kernel
theorem dd_Search_settle_94 : decode bb_Search_settle 94 = .ok (.istore 9, 2) := by decide +kernel
theorem dd_Search_settle_96 : decode bb_Search_settle 96 = .ok (.iconst 0, 1) := by decide +kernel
theorem dd_Search_settle_97 : decode bb_Search_settle 97 = .ok (.istore 10, 2) := by decide +kernel
theorem dd_Search_settle_99 : decode bb_Search_settle 99 = .ok (.iload 10, 2) := by decide +kernel
theorem dd_Search_settle_101 : decode bb_Search_settle 101 = .ok (.iload 8, 2) := by decide +kernel
theorem dd_Search_settle_103 : decode bb_Search_settle 103 = .ok (.if_icmp .gt 81, 3) := by decide +kernel
theorem dd_Search_settle_106 : decode bb_Search_settle 106 = .ok (.iload 6, 2) := by decide +kernel
theorem dd_Search_settle_108 : decode bb_Search_settle 108 = .ok (.ifCond .ne 15, 3) := by decide +kernel
theorem dd_Search_settle_111 : decode bb_Search_settle 111 = .ok (.iload 10, 2) := by decide +kernel
theorem dd_Search_settle_113 : decode bb_Search_settle 113 = .ok (.ifCond .eq 10, 3) := by decide +kernel
theorem dd_Search_settle_116 : decode bb_Search_settle 116 = .ok (.iload 10, 2) := by decide +kernel
theorem dd_Search_settle_118 : decode bb_Search_settle 118 = .ok (.iload 8, 2) := by decide +kernel
theorem dd_Search_settle_120 : decode bb_Search_settle 120 = .ok (.if_icmp .ne 58, 3) := by decide +kernel
theorem dd_Search_settle_123 : decode bb_Search_settle 123 = .ok (.aload_n 0, 1) := by decide +kernel
theorem dd_Search_settle_124 : decode bb_Search_settle 124 = .ok (.getfield 29, 3) := by decide +kernel
theorem dd_Search_settle_127 : decode bb_Search_settle 127 = .ok (.iload_n 3, 1) := by decide +kernel
theorem dd_Search_settle_128 : decode bb_Search_settle 128 = .ok (.iload 7, 2) := by decide +kernel
theorem dd_Search_settle_130 : decode bb_Search_settle 130 = .ok (.aload_n 1, 1) := by decide +kernel
theorem dd_Search_settle_131 : decode bb_Search_settle 131 = .ok (.getfield 73, 3) := by decide +kernel
theorem dd_Search_settle_134 : decode bb_Search_settle 134 = .ok (.iload_n 3, 1) := by decide +kernel
theorem dd_Search_settle_135 : decode bb_Search_settle 135 = .ok (.iaload, 1) := by decide +kernel
theorem dd_Search_settle_136 : decode bb_Search_settle 136 = .ok (.ifCond .ge 11, 3) := by decide +kernel
theorem dd_Search_settle_139 : decode bb_Search_settle 139 = .ok (.iload 8, 2) := by decide +kernel
theorem dd_Search_settle_141 : decode bb_Search_settle 141 = .ok (.iload 10, 2) := by decide +kernel
theorem dd_Search_settle_143 : decode bb_Search_settle 143 = .ok (.isub, 1) := by decide +kernel
theorem dd_Search_settle_144 : decode bb_Search_settle 144 = .ok (.goto 5, 3) := by decide +kernel
theorem dd_Search_settle_147 : decode bb_Search_settle 147 = .ok (.iload 10, 2) := by decide +kernel
theorem dd_Search_settle_149 : decode bb_Search_settle 149 = .ok (.iadd, 1) := by decide +kernel
theorem dd_Search_settle_150 : decode bb_Search_settle 150 = .ok (.iastore, 1) := by decide +kernel
theorem dd_Search_settle_151 : decode bb_Search_settle 151 = .ok (.aload_n 0, 1) := by decide +kernel
theorem dd_Search_settle_152 : decode bb_Search_settle 152 = .ok (.aload_n 1, 1) := by decide +kernel
theorem dd_Search_settle_153 : decode bb_Search_settle 153 = .ok (.aload_n 2, 1) := by decide +kernel
theorem dd_Search_settle_154 : decode bb_Search_settle 154 = .ok (.iload_n 3, 1) := by decide +kernel
theorem dd_Search_settle_155 : decode bb_Search_settle 155 = .ok (.iconst 1, 1) := by decide +kernel
theorem dd_Search_settle_156 : decode bb_Search_settle 156 = .ok (.iadd, 1) := by decide +kernel
theorem dd_Search_settle_157 : decode bb_Search_settle 157 = .ok (.iload 4, 2) := by decide +kernel
theorem dd_Search_settle_159 : decode bb_Search_settle 159 = .ok (.iload 9, 2) := by decide +kernel
theorem dd_Search_settle_161 : decode bb_Search_settle 161 = .ok (.aload_n 1, 1) := by decide +kernel
theorem dd_Search_settle_162 : decode bb_Search_settle 162 = .ok (.getfield 73, 3) := by decide +kernel
theorem dd_Search_settle_165 : decode bb_Search_settle 165 = .ok (.iload_n 3, 1) := by decide +kernel
theorem dd_Search_settle_166 : decode bb_Search_settle 166 = .ok (.iaload, 1) := by decide +kernel
theorem dd_Search_settle_167 : decode bb_Search_settle 167 = .ok (.aload_n 0, 1) := by decide +kernel
theorem dd_Search_settle_168 : decode bb_Search_settle 168 = .ok (.getfield 29, 3) := by decide +kernel
theorem dd_Search_settle_171 : decode bb_Search_settle 171 = .ok (.iload_n 3, 1) := by decide +kernel
theorem dd_Search_settle_172 : decode bb_Search_settle 172 = .ok (.iaload, 1) := by decide +kernel
theorem dd_Search_settle_173 : decode bb_Search_settle 173 = .ok (.imul, 1) := by decide +kernel
theorem dd_Search_settle_174 : decode bb_Search_settle 174 = .ok (.iadd, 1) := by decide +kernel
theorem dd_Search_settle_175 : decode bb_Search_settle 175 = .ok (.invokevirtual 50, 3) := by decide +kernel
theorem dd_Search_settle_178 : decode bb_Search_settle 178 = .ok (.iinc 10 1, 3) := by decide +kernel
theorem dd_Search_settle_181 : decode bb_Search_settle 181 = .ok (.goto (-82), 3) := by decide +kernel
theorem dd_Search_settle_184 : decode bb_Search_settle 184 = .ok (.aload_n 0, 1) := by decide +kernel
theorem dd_Search_settle_185 : decode bb_Search_settle 185 = .ok (.getfield 29, 3) := by decide +kernel
theorem dd_Search_settle_188 : decode bb_Search_settle 188 = .ok (.iload_n 3, 1) := by decide +kernel
theorem dd_Search_settle_189 : decode bb_Search_settle 189 = .ok (.iload 7, 2) := by decide +kernel
theorem dd_Search_settle_191 : decode bb_Search_settle 191 = .ok (.iastore, 1) := by decide +kernel
theorem dd_Search_settle_192 : decode bb_Search_settle 192 = .ok (.iload 6, 2) := by decide +kernel
theorem dd_Search_settle_194 : decode bb_Search_settle 194 = .ok (.ifCond .ne 25, 3) := by decide +kernel
theorem dd_Search_settle_197 : decode bb_Search_settle 197 = .ok (.iload 8, 2) := by decide +kernel
theorem dd_Search_settle_199 : decode bb_Search_settle 199 = .ok (.ifCond .le 20, 3) := by decide +kernel
theorem dd_Search_settle_202 : decode bb_Search_settle 202 = .ok (.aload_n 0, 1) := by decide +kernel
theorem dd_Search_settle_203 : decode bb_Search_settle 203 = .ok (.aload_n 1, 1) := by decide +kernel
theorem dd_Search_settle_204 : decode bb_Search_settle 204 = .ok (.aload_n 2, 1) := by decide +kernel
theorem dd_Search_settle_205 : decode bb_Search_settle 205 = .ok (.iload_n 3, 1) := by decide +kernel
theorem dd_Search_settle_206 : decode bb_Search_settle 206 = .ok (.iconst 1, 1) := by decide +kernel
theorem dd_Search_settle_207 : decode bb_Search_settle 207 = .ok (.iadd, 1) := by decide +kernel
theorem dd_Search_settle_208 : decode bb_Search_settle 208 = .ok (.iload 4, 2) := by decide +kernel
theorem dd_Search_settle_210 : decode bb_Search_settle 210 = .ok (.iconst 1, 1) := by decide +kernel
theorem dd_Search_settle_211 : decode bb_Search_settle 211 = .ok (.iload_n 3, 1) := by decide +kernel
theorem dd_Search_settle_212 : decode bb_Search_settle 212 = .ok (.ishl, 1) := by decide +kernel
theorem dd_Search_settle_213 : decode bb_Search_settle 213 = .ok (.ior, 1) := by decide +kernel
theorem dd_Search_settle_214 : decode bb_Search_settle 214 = .ok (.iload 5, 2) := by decide +kernel
theorem dd_Search_settle_216 : decode bb_Search_settle 216 = .ok (.invokevirtual 50, 3) := by decide +kernel
theorem dd_Search_settle_219 : decode bb_Search_settle 219 = .ok (.return_, 1) := by decide +kernel
theorem dd_Search_canBeKept_0 : decode bb_Search_canBeKept 0 = .ok (.iconst 0, 1) := by decide +kernel
theorem dd_Search_canBeKept_1 : decode bb_Search_canBeKept 1 = .ok (.istore 4, 2) := by decide +kernel
theorem dd_Search_canBeKept_3 : decode bb_Search_canBeKept 3 = .ok (.iload 4, 2) := by decide +kernel
theorem dd_Search_canBeKept_5 : decode bb_Search_canBeKept 5 = .ok (.aload_n 1, 1) := by decide +kernel
theorem dd_Search_canBeKept_6 : decode bb_Search_canBeKept 6 = .ok (.getfield 76, 3) := by decide +kernel
theorem dd_Search_canBeKept_9 : decode bb_Search_canBeKept 9 = .ok (.if_icmp .ge 113, 3) := by decide +kernel
theorem dd_Search_canBeKept_12 : decode bb_Search_canBeKept 12 = .ok (.iconst 0, 1) := by decide +kernel
theorem dd_Search_canBeKept_13 : decode bb_Search_canBeKept 13 = .ok (.istore 5, 2) := by decide +kernel
theorem dd_Search_canBeKept_15 : decode bb_Search_canBeKept 15 = .ok (.iconst 0, 1) := by decide +kernel
theorem dd_Search_canBeKept_16 : decode bb_Search_canBeKept 16 = .ok (.istore 6, 2) := by decide +kernel
theorem dd_Search_canBeKept_18 : decode bb_Search_canBeKept 18 = .ok (.iload 6, 2) := by decide +kernel
theorem dd_Search_canBeKept_20 : decode bb_Search_canBeKept 20 = .ok (.aload_n 1, 1) := by decide +kernel
theorem dd_Search_canBeKept_21 : decode bb_Search_canBeKept 21 = .ok (.getfield 38, 3) := by decide +kernel
theorem dd_Search_canBeKept_24 : decode bb_Search_canBeKept 24 = .ok (.if_icmp .ge 78, 3) := by decide +kernel
theorem dd_Search_canBeKept_27 : decode bb_Search_canBeKept 27 = .ok (.aload_n 1, 1) := by decide +kernel
theorem dd_Search_canBeKept_28 : decode bb_Search_canBeKept 28 = .ok (.getfield 79, 3) := by decide +kernel
theorem dd_Search_canBeKept_31 : decode bb_Search_canBeKept 31 = .ok (.iload 4, 2) := by decide +kernel
theorem dd_Search_canBeKept_33 : decode bb_Search_canBeKept 33 = .ok (.aaload, 1) := by decide +kernel
theorem dd_Search_canBeKept_34 : decode bb_Search_canBeKept 34 = .ok (.iload 6, 2) := by decide +kernel
theorem dd_Search_canBeKept_36 : decode bb_Search_canBeKept 36 = .ok (.iaload, 1) := by decide +kernel
theorem dd_Search_canBeKept_37 : decode bb_Search_canBeKept 37 = .ok (.istore 7, 2) := by decide +kernel
theorem dd_Search_canBeKept_39 : decode bb_Search_canBeKept 39 = .ok (.iload 6, 2) := by decide +kernel
theorem dd_Search_canBeKept_41 : decode bb_Search_canBeKept 41 = .ok (.iload_n 2, 1) := by decide +kernel
theorem dd_Search_canBeKept_42 : decode bb_Search_canBeKept 42 = .ok (.if_icmp .ge 12, 3) := by decide +kernel
theorem dd_Search_canBeKept_45 : decode bb_Search_canBeKept 45 = .ok (.iload_n 3, 1) := by decide +kernel
theorem dd_Search_canBeKept_46 : decode bb_Search_canBeKept 46 = .ok (.iload 6, 2) := by decide +kernel
theorem dd_Search_canBeKept_48 : decode bb_Search_canBeKept 48 = .ok (.ishr, 1) := by decide +kernel
theorem dd_Search_canBeKept_49 : decode bb_Search_canBeKept 49 = .ok (.iconst 1, 1) := by decide +kernel
theorem dd_Search_canBeKept_50 : decode bb_Search_canBeKept 50 = .ok (.iand, 1) := by decide +kernel
theorem dd_Search_canBeKept_51 : decode bb_Search_canBeKept 51 = .ok (.ifCond .eq 7, 3) := by decide +kernel
theorem dd_Search_canBeKept_54 : decode bb_Search_canBeKept 54 = .ok (.iconst 1, 1) := by decide +kernel
theorem dd_Search_canBeKept_55 : decode bb_Search_canBeKept 55 = .ok (.goto 4, 3) := by decide +kernel
theorem dd_Search_canBeKept_58 : decode bb_Search_canBeKept 58 = .ok (.iconst 0, 1) := by decide +kernel
theorem dd_Search_canBeKept_59 : decode bb_Search_canBeKept 59 = .ok (.istore 8, 2) := by decide +kernel
theorem dd_Search_canBeKept_61 : decode bb_Search_canBeKept 61 = .ok (.iload 5, 2) := by decide +kernel
theorem dd_Search_canBeKept_63 : decode bb_Search_canBeKept 63 = .ok (.iload 7, 2) := by decide +kernel
theorem dd_Search_canBeKept_65 : decode bb_Search_canBeKept 65 = .ok (.iload 8, 2) := by decide +kernel
theorem dd_Search_canBeKept_67 : decode bb_Search_canBeKept 67 = .ok (.ifCond .eq 18, 3) := by decide +kernel
theorem dd_Search_canBeKept_70 : decode bb_Search_canBeKept 70 = .ok (.iload 7, 2) := by decide +kernel
theorem dd_Search_canBeKept_72 : decode bb_Search_canBeKept 72 = .ok (.ifCond .ge 13, 3) := by decide +kernel
theorem dd_Search_canBeKept_75 : decode bb_Search_canBeKept 75 = .ok (.aload_n 1, 1) := by decide +kernel
theorem dd_Search_canBeKept_76 : decode bb_Search_canBeKept 76 = .ok (.getfield 70, 3) := by decide +kernel
theorem dd_Search_canBeKept_79 : decode bb_Search_canBeKept 79 = .ok (.iload 6, 2) := by decide +kernel
theorem dd_Search_canBeKept_81 : decode bb_Search_canBeKept 81 = .ok (.iaload, 1) := by decide +kernel
theorem dd_Search_canBeKept_82 : decode bb_Search_canBeKept 82 = .ok (.goto 10, 3) := by decide +kernel
theorem dd_Search_canBeKept_85 : decode bb_Search_canBeKept 85 = .ok (.aload_n 0, 1) := by decide +kernel
theorem dd_Search_canBeKept_86 : decode bb_Search_canBeKept 86 = .ok (.getfield 29, 3) := by decide +kernel
theorem dd_Search_canBeKept_89 : decode bb_Search_canBeKept 89 = .ok (.iload 6, 2) := by decide +kernel
theorem dd_Search_canBeKept_91 : decode bb_Search_canBeKept 91 = .ok (.iaload, 1) := by decide +kernel
theorem dd_Search_canBeKept_92 : decode bb_Search_canBeKept 92 = .ok (.imul, 1) := by decide +kernel
theorem dd_Search_canBeKept_93 : decode bb_Search_canBeKept 93 = .ok (.iadd, 1) := by decide +kernel
theorem dd_Search_canBeKept_94 : decode bb_Search_canBeKept 94 = .ok (.istore 5, 2) := by decide +kernel
theorem dd_Search_canBeKept_96 : decode bb_Search_canBeKept 96 = .ok (.iinc 6 1, 3) := by decide +kernel
theorem dd_Search_canBeKept_99 : decode bb_Search_canBeKept 99 = .ok (.goto (-81), 3) := by decide +kernel
theorem dd_Search_canBeKept_102 : decode bb_Search_canBeKept 102 = .ok (.iload 5, 2) := by decide +kernel
theorem dd_Search_canBeKept_104 : decode bb_Search_canBeKept 104 = .ok (.aload_n 1, 1) := by decide +kernel
theorem dd_Search_canBeKept_105 : decode bb_Search_canBeKept 105 = .ok (.getfield 83, 3) := by decide +kernel
theorem dd_Search_canBeKept_108 : decode bb_Search_canBeKept 108 = .ok (.iload 4, 2) := by decide +kernel
theorem dd_Search_canBeKept_110 : decode bb_Search_canBeKept 110 = .ok (.iaload, 1) := by decide +kernel
theorem dd_Search_canBeKept_111 : decode bb_Search_canBeKept 111 = .ok (.if_icmp .le 5, 3) := by decide +kernel
theorem dd_Search_canBeKept_114 : decode bb_Search_canBeKept 114 = .ok (.iconst 0, 1) := by decide +kernel
theorem dd_Search_canBeKept_115 : decode bb_Search_canBeKept 115 = .ok (.ireturn, 1) := by decide +kernel
theorem dd_Search_canBeKept_116 : decode bb_Search_canBeKept 116 = .ok (.iinc 4 1, 3) := by decide +kernel
theorem dd_Search_canBeKept_119 : decode bb_Search_canBeKept 119 = .ok (.goto (-116), 3) := by decide +kernel
theorem dd_Search_canBeKept_122 : decode bb_Search_canBeKept 122 = .ok (.iconst 1, 1) := by decide +kernel
theorem dd_Search_canBeKept_123 : decode bb_Search_canBeKept 123 = .ok (.ireturn, 1) := by decide +kernel
theorem dd_Search_tryCorners_0 : decode bb_Search_tryCorners 0 = .ok (.iload_n 3, 1) := by decide +kernel
theorem dd_Search_tryCorners_1 : decode bb_Search_tryCorners 1 = .ok (.ifCond .ne 12, 3) := by decide +kernel
theorem dd_Search_tryCorners_4 : decode bb_Search_tryCorners 4 = .ok (.aload_n 0, 1) := by decide +kernel
theorem dd_Search_tryCorners_5 : decode bb_Search_tryCorners 5 = .ok (.aload_n 1, 1) := by decide +kernel
theorem dd_Search_tryCorners_6 : decode bb_Search_tryCorners 6 = .ok (.aload_n 2, 1) := by decide +kernel
theorem dd_Search_tryCorners_7 : decode bb_Search_tryCorners 7 = .ok (.iconst 0, 1) := by decide +kernel
theorem dd_Search_tryCorners_8 : decode bb_Search_tryCorners 8 = .ok (.iconst 0, 1) := by decide +kernel
theorem dd_Search_tryCorners_9 : decode bb_Search_tryCorners 9 = .ok (.invokevirtual 86, 3) := by decide +kernel
theorem dd_Search_tryCorners_12 : decode bb_Search_tryCorners 12 = .ok (.return_, 1) := by decide +kernel
theorem dd_Search_tryCorners_13 : decode bb_Search_tryCorners 13 = .ok (.aload_n 0, 1) := by decide +kernel
theorem dd_Search_tryCorners_14 : decode bb_Search_tryCorners 14 = .ok (.aload_n 1, 1) := by decide +kernel
theorem dd_Search_tryCorners_15 : decode bb_Search_tryCorners 15 = .ok (.iload_n 3, 1) := by decide +kernel
theorem dd_Search_tryCorners_16 : decode bb_Search_tryCorners 16 = .ok (.invokevirtual 90, 3) := by decide +kernel
theorem dd_Search_tryCorners_19 : decode bb_Search_tryCorners 19 = .ok (.iload_n 3, 1) := by decide +kernel
theorem dd_Search_tryCorners_20 : decode bb_Search_tryCorners 20 = .ok (.invokestatic 94, 3) := by decide +kernel
theorem dd_Search_tryCorners_23 : decode bb_Search_tryCorners 23 = .ok (.istore 4, 2) := by decide +kernel
theorem dd_Search_tryCorners_25 : decode bb_Search_tryCorners 25 = .ok (.iconst 1, 1) := by decide +kernel
theorem dd_Search_tryCorners_26 : decode bb_Search_tryCorners 26 = .ok (.istore 5, 2) := by decide +kernel
theorem dd_Search_tryCorners_28 : decode bb_Search_tryCorners 28 = .ok (.iload 5, 2) := by decide +kernel
theorem dd_Search_tryCorners_30 : decode bb_Search_tryCorners 30 = .ok (.iconst 1, 1) := by decide +kernel
theorem dd_Search_tryCorners_31 : decode bb_Search_tryCorners 31 = .ok (.aload_n 1, 1) := by decide +kernel
theorem dd_Search_tryCorners_32 : decode bb_Search_tryCorners 32 = .ok (.getfield 76, 3) := by decide +kernel
theorem dd_Search_tryCorners_35 : decode bb_Search_tryCorners 35 = .ok (.ishl, 1) := by decide +kernel
theorem dd_Search_tryCorners_36 : decode bb_Search_tryCorners 36 = .ok (.if_icmp .ge 28, 3) := by decide +kernel
theorem dd_Search_tryCorners_39 : decode bb_Search_tryCorners 39 = .ok (.iload 5, 2) := by decide +kernel
theorem dd_Search_tryCorners_41 : decode bb_Search_tryCorners 41 = .ok (.invokestatic 94, 3) := by decide +kernel
theorem dd_Search_tryCorners_44 : decode bb_Search_tryCorners 44 = .ok (.iload 4, 2) := by decide +kernel
theorem dd_Search_tryCorners_46 : decode bb_Search_tryCorners 46 = .ok (.if_icmp .ne 12, 3) := by decide +kernel
theorem dd_Search_tryCorners_49 : decode bb_Search_tryCorners 49 = .ok (.aload_n 0, 1) := by decide +kernel
theorem dd_Search_tryCorners_50 : decode bb_Search_tryCorners 50 = .ok (.aload_n 1, 1) := by decide +kernel
theorem dd_Search_tryCorners_51 : decode bb_Search_tryCorners 51 = .ok (.aload_n 2, 1) := by decide +kernel
theorem dd_Search_tryCorners_52 : decode bb_Search_tryCorners 52 = .ok (.iload_n 3, 1) := by decide +kernel
theorem dd_Search_tryCorners_53 : decode bb_Search_tryCorners 53 = .ok (.iload 5, 2) := by decide +kernel
theorem dd_Search_tryCorners_55 : decode bb_Search_tryCorners 55 = .ok (.invokevirtual 86, 3) := by decide +kernel
theorem dd_Search_tryCorners_58 : decode bb_Search_tryCorners 58 = .ok (.iinc 5 1, 3) := by decide +kernel
theorem dd_Search_tryCorners_61 : decode bb_Search_tryCorners 61 = .ok (.goto (-33), 3) := by decide +kernel
theorem dd_Search_tryCorners_64 : decode bb_Search_tryCorners 64 = .ok (.return_, 1) := by decide +kernel
theorem dd_Search_setRests_0 : decode bb_Search_setRests 0 = .ok (.iconst 0, 1) := by decide +kernel
theorem dd_Search_setRests_1 : decode bb_Search_setRests 1 = .ok (.istore_n 3, 1) := by decide +kernel
theorem dd_Search_setRests_2 : decode bb_Search_setRests 2 = .ok (.iload_n 3, 1) := by decide +kernel
theorem dd_Search_setRests_3 : decode bb_Search_setRests 3 = .ok (.aload_n 1, 1) := by decide +kernel
theorem dd_Search_setRests_4 : decode bb_Search_setRests 4 = .ok (.getfield 38, 3) := by decide +kernel
theorem dd_Search_setRests_7 : decode bb_Search_setRests 7 = .ok (.if_icmp .ge 33, 3) := by decide +kernel
theorem dd_Search_setRests_10 : decode bb_Search_setRests 10 = .ok (.aload_n 0, 1) := by decide +kernel
theorem dd_Search_setRests_11 : decode bb_Search_setRests 11 = .ok (.getfield 35, 3) := by decide +kernel
theorem dd_Search_setRests_14 : decode bb_Search_setRests 14 = .ok (.iload_n 3, 1) := by decide +kernel
theorem dd_Search_setRests_15 : decode bb_Search_setRests 15 = .ok (.iload_n 2, 1) := by decide +kernel
theorem dd_Search_setRests_16 : decode bb_Search_setRests 16 = .ok (.iload_n 3, 1) := by decide +kernel
theorem dd_Search_setRests_17 : decode bb_Search_setRests 17 = .ok (.ishr, 1) := by decide +kernel
theorem dd_Search_setRests_18 : decode bb_Search_setRests 18 = .ok (.iconst 1, 1) := by decide +kernel
theorem dd_Search_setRests_19 : decode bb_Search_setRests 19 = .ok (.iand, 1) := by decide +kernel
theorem dd_Search_setRests_20 : decode bb_Search_setRests 20 = .ok (.ifCond .eq 7, 3) := by decide +kernel
theorem dd_Search_setRests_23 : decode bb_Search_setRests 23 = .ok (.iconst 0, 1) := by decide +kernel
theorem dd_Search_setRests_24 : decode bb_Search_setRests 24 = .ok (.goto 9, 3) := by decide +kernel
theorem dd_Search_setRests_27 : decode bb_Search_setRests 27 = .ok (.aload_n 0, 1) := by decide +kernel
theorem dd_Search_setRests_28 : decode bb_Search_setRests 28 = .ok (.getfield 29, 3) := by decide +kernel
theorem dd_Search_setRests_31 : decode bb_Search_setRests 31 = .ok (.iload_n 3, 1) := by decide +kernel
theorem dd_Search_setRests_32 : decode bb_Search_setRests 32 = .ok (.iaload, 1) := by decide +kernel
theorem dd_Search_setRests_33 : decode bb_Search_setRests 33 = .ok (.iastore, 1) := by decide +kernel
theorem dd_Search_setRests_34 : decode bb_Search_setRests 34 = .ok (.iinc 3 1, 3) := by decide +kernel
theorem dd_Search_setRests_37 : decode bb_Search_setRests 37 = .ok (.goto (-35), 3) := by decide +kernel
theorem dd_Search_setRests_40 : decode bb_Search_setRests 40 = .ok (.iconst 0, 1) := by decide +kernel
theorem dd_Search_setRests_41 : decode bb_Search_setRests 41 = .ok (.istore_n 3, 1) := by decide +kernel
theorem dd_Search_setRests_42 : decode bb_Search_setRests 42 = .ok (.iload_n 3, 1) := by decide +kernel
theorem dd_Search_setRests_43 : decode bb_Search_setRests 43 = .ok (.aload_n 1, 1) := by decide +kernel
theorem dd_Search_setRests_44 : decode bb_Search_setRests 44 = .ok (.getfield 76, 3) := by decide +kernel
theorem dd_Search_setRests_47 : decode bb_Search_setRests 47 = .ok (.if_icmp .ge 37, 3) := by decide +kernel
theorem dd_Search_setRests_50 : decode bb_Search_setRests 50 = .ok (.aload_n 0, 1) := by decide +kernel
theorem dd_Search_setRests_51 : decode bb_Search_setRests 51 = .ok (.getfield 32, 3) := by decide +kernel
theorem dd_Search_setRests_54 : decode bb_Search_setRests 54 = .ok (.iload_n 3, 1) := by decide +kernel
theorem dd_Search_setRests_55 : decode bb_Search_setRests 55 = .ok (.aload_n 1, 1) := by decide +kernel
theorem dd_Search_setRests_56 : decode bb_Search_setRests 56 = .ok (.getfield 83, 3) := by decide +kernel
theorem dd_Search_setRests_59 : decode bb_Search_setRests 59 = .ok (.iload_n 3, 1) := by decide +kernel
theorem dd_Search_setRests_60 : decode bb_Search_setRests 60 = .ok (.iaload, 1) := by decide +kernel
theorem dd_Search_setRests_61 : decode bb_Search_setRests 61 = .ok (.aload_n 1, 1) := by decide +kernel
theorem dd_Search_setRests_62 : decode bb_Search_setRests 62 = .ok (.aload_n 1, 1) := by decide +kernel
theorem dd_Search_setRests_63 : decode bb_Search_setRests 63 = .ok (.getfield 79, 3) := by decide +kernel
theorem dd_Search_setRests_66 : decode bb_Search_setRests 66 = .ok (.iload_n 3, 1) := by decide +kernel
theorem dd_Search_setRests_67 : decode bb_Search_setRests 67 = .ok (.aaload, 1) := by decide +kernel
theorem dd_Search_setRests_68 : decode bb_Search_setRests 68 = .ok (.aload_n 0, 1) := by decide +kernel
theorem dd_Search_setRests_69 : decode bb_Search_setRests 69 = .ok (.getfield 35, 3) := by decide +kernel
theorem dd_Search_setRests_72 : decode bb_Search_setRests 72 = .ok (.invokevirtual 99, 3) := by decide +kernel
theorem dd_Search_setRests_75 : decode bb_Search_setRests 75 = .ok (.l2i, 1) := by decide +kernel
theorem dd_Search_setRests_76 : decode bb_Search_setRests 76 = .ok (.isub, 1) := by decide +kernel
theorem dd_Search_setRests_77 : decode bb_Search_setRests 77 = .ok (.iastore, 1) := by decide +kernel
theorem dd_Search_setRests_78 : decode bb_Search_setRests 78 = .ok (.iinc 3 1, 3) := by decide +kernel
theorem dd_Search_setRests_81 : decode bb_Search_setRests 81 = .ok (.goto (-39), 3) := by decide +kernel
theorem dd_Search_setRests_84 : decode bb_Search_setRests 84 = .ok (.return_, 1) := by decide +kernel
theorem dd_Search_tryCorner_0 : decode bb_Search_tryCorner 0 = .ok (.aload_n 2, 1) := by decide +kernel
theorem dd_Search_tryCorner_1 : decode bb_Search_tryCorner 1 = .ok (.iload_n 3, 1) := by decide +kernel
theorem dd_Search_tryCorner_2 : decode bb_Search_tryCorner 2 = .ok (.iload 4, 2) := by decide +kernel
theorem dd_Search_tryCorner_4 : decode bb_Search_tryCorner 4 = .ok (.invokevirtual 103, 3) := by decide +kernel
theorem dd_Search_tryCorner_7 : decode bb_Search_tryCorner 7 = .ok (.istore 5, 2) := by decide +kernel
theorem dd_Search_tryCorner_9 : decode bb_Search_tryCorner 9 = .ok (.iload 5, 2) := by decide +kernel
theorem dd_Search_tryCorner_11 : decode bb_Search_tryCorner 11 = .ok (.ifCond .ne 4, 3) := by decide +kernel
theorem dd_Search_tryCorner_14 : decode bb_Search_tryCorner 14 = .ok (.return_, 1) := by decide +kernel
theorem dd_Search_tryCorner_15 : decode bb_Search_tryCorner 15 = .ok (.iload 5, 2) := by decide +kernel
theorem dd_Search_tryCorner_17 : decode bb_Search_tryCorner 17 = .ok (.ifCond .ge 9, 3) := by decide +kernel
theorem dd_Search_tryCorner_20 : decode bb_Search_tryCorner 20 = .ok (.iload 5, 2) := by decide +kernel
theorem dd_Search_tryCorner_22 : decode bb_Search_tryCorner 22 = .ok (.ineg, 1) := by decide +kernel
theorem dd_Search_tryCorner_23 : decode bb_Search_tryCorner 23 = .ok (.goto 5, 3) := by decide +kernel
theorem dd_Search_tryCorner_26 : decode bb_Search_tryCorner 26 = .ok (.iload 5, 2) := by decide +kernel
theorem dd_Search_tryCorner_28 : decode bb_Search_tryCorner 28 = .ok (.istore 6, 2) := by decide +kernel
theorem dd_Search_tryCorner_30 : decode bb_Search_tryCorner 30 = .ok (.iload 5, 2) := by decide +kernel
theorem dd_Search_tryCorner_32 : decode bb_Search_tryCorner 32 = .ok (.ifCond .ge 7, 3) := by decide +kernel
theorem dd_Search_tryCorner_35 : decode bb_Search_tryCorner 35 = .ok (.iconst (-1), 1) := by decide +kernel
theorem dd_Search_tryCorner_36 : decode bb_Search_tryCorner 36 = .ok (.goto 4, 3) := by decide +kernel
theorem dd_Search_tryCorner_39 : decode bb_Search_tryCorner 39 = .ok (.iconst 1, 1) := by decide +kernel
theorem dd_Search_tryCorner_40 : decode bb_Search_tryCorner 40 = .ok (.istore 7, 2) := by decide +kernel
theorem dd_Search_tryCorner_42 : decode bb_Search_tryCorner 42 = .ok (.iconst 0, 1) := by decide +kernel
theorem dd_Search_tryCorner_43 : decode bb_Search_tryCorner 43 = .ok (.istore 8, 2) := by decide +kernel
theorem dd_Search_tryCorner_45 : decode bb_Search_tryCorner 45 = .ok (.iload 8, 2) := by decide +kernel
theorem dd_Search_tryCorner_47 : decode bb_Search_tryCorner 47 = .ok (.aload_n 1, 1) := by decide +kernel
theorem dd_Search_tryCorner_48 : decode bb_Search_tryCorner 48 = .ok (.getfield 38, 3) := by decide +kernel
theorem dd_Search_tryCorner_51 : decode bb_Search_tryCorner 51 = .ok (.if_icmp .ge 51, 3) := by decide +kernel
theorem dd_Search_tryCorner_54 : decode bb_Search_tryCorner 54 = .ok (.aload_n 0, 1) := by decide +kernel
theorem dd_Search_tryCorner_55 : decode bb_Search_tryCorner 55 = .ok (.getfield 35, 3) := by decide +kernel
theorem dd_Search_tryCorner_58 : decode bb_Search_tryCorner 58 = .ok (.iload 8, 2) := by decide +kernel
theorem dd_Search_tryCorner_60 : decode bb_Search_tryCorner 60 = .ok (.iload_n 3, 1) := by decide +kernel
theorem dd_Search_tryCorner_61 : decode bb_Search_tryCorner 61 = .ok (.iload 8, 2) := by decide +kernel
theorem dd_Search_tryCorner_63 : decode bb_Search_tryCorner 63 = .ok (.ishr, 1) := by decide +kernel
theorem dd_Search_tryCorner_64 : decode bb_Search_tryCorner 64 = .ok (.iconst 1, 1) := by decide +kernel
theorem dd_Search_tryCorner_65 : decode bb_Search_tryCorner 65 = .ok (.iand, 1) := by decide +kernel
theorem dd_Search_tryCorner_66 : decode bb_Search_tryCorner 66 = .ok (.ifCond .eq 19, 3) := by decide +kernel
theorem dd_Search_tryCorner_69 : decode bb_Search_tryCorner 69 = .ok (.iload 7, 2) := by decide +kernel
theorem dd_Search_tryCorner_71 : decode bb_Search_tryCorner 71 = .ok (.aload_n 0, 1) := by decide +kernel
theorem dd_Search_tryCorner_72 : decode bb_Search_tryCorner 72 = .ok (.aload_n 2, 1) := by decide +kernel
theorem dd_Search_tryCorner_73 : decode bb_Search_tryCorner 73 = .ok (.iload_n 3, 1) := by decide +kernel
theorem dd_Search_tryCorner_74 : decode bb_Search_tryCorner 74 = .ok (.iload 4, 2) := by decide +kernel
theorem dd_Search_tryCorner_76 : decode bb_Search_tryCorner 76 = .ok (.iload 8, 2) := by decide +kernel
theorem dd_Search_tryCorner_78 : decode bb_Search_tryCorner 78 = .ok (.invokevirtual 109, 3) := by decide +kernel
theorem dd_Search_tryCorner_81 : decode bb_Search_tryCorner 81 = .ok (.imul, 1) := by decide +kernel
theorem dd_Search_tryCorner_82 : decode bb_Search_tryCorner 82 = .ok (.goto 13, 3) := by decide +kernel
theorem dd_Search_tryCorner_85 : decode bb_Search_tryCorner 85 = .ok (.aload_n 0, 1) := by decide +kernel
theorem dd_Search_tryCorner_86 : decode bb_Search_tryCorner 86 = .ok (.getfield 29, 3) := by decide +kernel
theorem dd_Search_tryCorner_89 : decode bb_Search_tryCorner 89 = .ok (.iload 8, 2) := by decide +kernel
theorem dd_Search_tryCorner_91 : decode bb_Search_tryCorner 91 = .ok (.iaload, 1) := by decide +kernel
theorem dd_Search_tryCorner_92 : decode bb_Search_tryCorner 92 = .ok (.iload 6, 2) := by decide +kernel
theorem dd_Search_tryCorner_94 : decode bb_Search_tryCorner 94 = .ok (.imul, 1) := by decide +kernel
theorem dd_Search_tryCorner_95 : decode bb_Search_tryCorner 95 = .ok (.iastore, 1) := by decide +kernel
theorem dd_Search_tryCorner_96 : decode bb_Search_tryCorner 96 = .ok (.iinc 8 1, 3) := by decide +kernel
theorem dd_Search_tryCorner_99 : decode bb_Search_tryCorner 99 = .ok (.goto (-54), 3) := by decide +kernel
theorem dd_Search_tryCorner_102 : decode bb_Search_tryCorner 102 = .ok (.aload_n 1, 1) := by decide +kernel
theorem dd_Search_tryCorner_103 : decode bb_Search_tryCorner 103 = .ok (.aload_n 1, 1) := by decide +kernel
theorem dd_Search_tryCorner_104 : decode bb_Search_tryCorner 104 = .ok (.getfield 73, 3) := by decide +kernel
theorem dd_Search_tryCorner_107 : decode bb_Search_tryCorner 107 = .ok (.aload_n 0, 1) := by decide +kernel
theorem dd_Search_tryCorner_108 : decode bb_Search_tryCorner 108 = .ok (.getfield 35, 3) := by decide +kernel
theorem dd_Search_tryCorner_111 : decode bb_Search_tryCorner 111 = .ok (.invokevirtual 99, 3) := by decide +kernel
theorem dd_Search_tryCorner_114 : decode bb_Search_tryCorner 114 = .ok (.l2i, 1) := by decide +kernel
theorem dd_Search_tryCorner_115 : decode bb_Search_tryCorner 115 = .ok (.istore 8, 2) := by decide +kernel
theorem dd_Search_tryCorner_117 : decode bb_Search_tryCorner 117 = .ok (.aload_n 0, 1) := by decide +kernel
theorem dd_Search_tryCorner_118 : decode bb_Search_tryCorner 118 = .ok (.aload_n 1, 1) := by decide +kernel
theorem dd_Search_tryCorner_119 : decode bb_Search_tryCorner 119 = .ok (.aload_n 0, 1) := by decide +kernel
theorem dd_Search_tryCorner_120 : decode bb_Search_tryCorner 120 = .ok (.getfield 35, 3) := by decide +kernel
theorem dd_Search_tryCorner_123 : decode bb_Search_tryCorner 123 = .ok (.iload 8, 2) := by decide +kernel
theorem dd_Search_tryCorner_125 : decode bb_Search_tryCorner 125 = .ok (.iload 6, 2) := by decide +kernel
theorem dd_Search_tryCorner_127 : decode bb_Search_tryCorner 127 = .ok (.invokevirtual 54, 3) := by decide +kernel
theorem dd_Search_tryCorner_130 : decode bb_Search_tryCorner 130 = .ok (.ifCond .eq 24, 3) := by decide +kernel
theorem dd_Search_tryCorner_133 : decode bb_Search_tryCorner 133 = .ok (.aload_n 1, 1) := by decide +kernel
theorem dd_Search_tryCorner_134 : decode bb_Search_tryCorner 134 = .ok (.aload_n 0, 1) := by decide +kernel
theorem dd_Search_tryCorner_135 : decode bb_Search_tryCorner 135 = .ok (.getfield 35, 3) := by decide +kernel
theorem dd_Search_tryCorner_138 : decode bb_Search_tryCorner 138 = .ok (.iload 6, 2) := by decide +kernel
theorem dd_Search_tryCorner_140 : decode bb_Search_tryCorner 140 = .ok (.invokevirtual 113, 3) := by decide +kernel
theorem dd_Search_tryCorner_143 : decode bb_Search_tryCorner 143 = .ok (.ifCond .eq 11, 3) := by decide +kernel
theorem dd_Search_tryCorner_146 : decode bb_Search_tryCorner 146 = .ok (.aload_n 0, 1) := by decide +kernel
theorem dd_Search_tryCorner_147 : decode bb_Search_tryCorner 147 = .ok (.iload 8, 2) := by decide +kernel
theorem dd_Search_tryCorner_149 : decode bb_Search_tryCorner 149 = .ok (.iload 6, 2) := by decide +kernel
theorem dd_Search_tryCorner_151 : decode bb_Search_tryCorner 151 = .ok (.invokevirtual 117, 3) := by decide +kernel
theorem dd_Search_tryCorner_154 : decode bb_Search_tryCorner 154 = .ok (.return_, 1) := by decide +kernel
theorem dd_Search_freeAmount_0 : decode bb_Search_freeAmount 0 = .ok (.iconst 0, 1) := by decide +kernel
theorem dd_Search_freeAmount_1 : decode bb_Search_freeAmount 1 = .ok (.istore 5, 2) := by decide +kernel
theorem dd_Search_freeAmount_3 : decode bb_Search_freeAmount 3 = .ok (.iconst 0, 1) := by decide +kernel
theorem dd_Search_freeAmount_4 : decode bb_Search_freeAmount 4 = .ok (.istore 6, 2) := by decide +kernel
theorem dd_Search_freeAmount_6 : decode bb_Search_freeAmount 6 = .ok (.iload 6, 2) := by decide +kernel
theorem dd_Search_freeAmount_8 : decode bb_Search_freeAmount 8 = .ok (.bipush 6, 2) := by decide +kernel
theorem dd_Search_freeAmount_10 : decode bb_Search_freeAmount 10 = .ok (.if_icmp .ge 41, 3) := by decide +kernel
theorem dd_Search_freeAmount_13 : decode bb_Search_freeAmount 13 = .ok (.iload_n 3, 1) := by decide +kernel
theorem dd_Search_freeAmount_14 : decode bb_Search_freeAmount 14 = .ok (.iload 6, 2) := by decide +kernel
theorem dd_Search_freeAmount_16 : decode bb_Search_freeAmount 16 = .ok (.ishr, 1) := by decide +kernel
theorem dd_Search_freeAmount_17 : decode bb_Search_freeAmount 17 = .ok (.iconst 1, 1) := by decide +kernel
theorem dd_Search_freeAmount_18 : decode bb_Search_freeAmount 18 = .ok (.iand, 1) := by decide +kernel
theorem dd_Search_freeAmount_19 : decode bb_Search_freeAmount 19 = .ok (.ifCond .eq 26, 3) := by decide +kernel
theorem dd_Search_freeAmount_22 : decode bb_Search_freeAmount 22 = .ok (.iload 5, 2) := by decide +kernel
theorem dd_Search_freeAmount_24 : decode bb_Search_freeAmount 24 = .ok (.aload_n 0, 1) := by decide +kernel
theorem dd_Search_freeAmount_25 : decode bb_Search_freeAmount 25 = .ok (.getfield 32, 3) := by decide +kernel
theorem dd_Search_freeAmount_28 : decode bb_Search_freeAmount 28 = .ok (.iload 6, 2) := by decide +kernel
theorem dd_Search_freeAmount_30 : decode bb_Search_freeAmount 30 = .ok (.iaload, 1) := by decide +kernel
theorem dd_Search_freeAmount_31 : decode bb_Search_freeAmount 31 = .ok (.aload_n 1, 1) := by decide +kernel
theorem dd_Search_freeAmount_32 : decode bb_Search_freeAmount 32 = .ok (.iload_n 2, 1) := by decide +kernel
theorem dd_Search_freeAmount_33 : decode bb_Search_freeAmount 33 = .ok (.iload_n 3, 1) := by decide +kernel
theorem dd_Search_freeAmount_34 : decode bb_Search_freeAmount 34 = .ok (.iload 4, 2) := by decide +kernel
theorem dd_Search_freeAmount_36 : decode bb_Search_freeAmount 36 = .ok (.iload 6, 2) := by decide +kernel
theorem dd_Search_freeAmount_38 : decode bb_Search_freeAmount 38 = .ok (.invokevirtual 121, 3) := by decide +kernel
theorem dd_Search_freeAmount_41 : decode bb_Search_freeAmount 41 = .ok (.imul, 1) := by decide +kernel
theorem dd_Search_freeAmount_42 : decode bb_Search_freeAmount 42 = .ok (.iadd, 1) := by decide +kernel
theorem dd_Search_freeAmount_43 : decode bb_Search_freeAmount 43 = .ok (.istore 5, 2) := by decide +kernel
theorem dd_Search_freeAmount_45 : decode bb_Search_freeAmount 45 = .ok (.iinc 6 1, 3) := by decide +kernel
theorem dd_Search_freeAmount_48 : decode bb_Search_freeAmount 48 = .ok (.goto (-42), 3) := by decide +kernel
theorem dd_Search_freeAmount_51 : decode bb_Search_freeAmount 51 = .ok (.iload 5, 2) := by decide +kernel
theorem dd_Search_freeAmount_53 : decode bb_Search_freeAmount 53 = .ok (.ireturn, 1) := by decide +kernel
theorem dd_Search_isBetter_0 : decode bb_Search_isBetter 0 = .ok (.aload_n 0, 1) := by decide +kernel
theorem dd_Search_isBetter_1 : decode bb_Search_isBetter 1 = .ok (.getfield 9, 3) := by decide +kernel
theorem dd_Search_isBetter_4 : decode bb_Search_isBetter 4 = .ok (.ifCond .ne 5, 3) := by decide +kernel
theorem dd_Search_isBetter_7 : decode bb_Search_isBetter 7 = .ok (.iconst 1, 1) := by decide +kernel
theorem dd_Search_isBetter_8 : decode bb_Search_isBetter 8 = .ok (.ireturn, 1) := by decide +kernel
theorem dd_Search_isBetter_9 : decode bb_Search_isBetter 9 = .ok (.aload_n 0, 1) := by decide +kernel
theorem dd_Search_isBetter_10 : decode bb_Search_isBetter 10 = .ok (.getfield 23, 3) := by decide +kernel
theorem dd_Search_isBetter_13 : decode bb_Search_isBetter 13 = .ok (.i2l, 1) := by decide +kernel
theorem dd_Search_isBetter_14 : decode bb_Search_isBetter 14 = .ok (.iload 4, 2) := by decide +kernel
theorem dd_Search_isBetter_16 : decode bb_Search_isBetter 16 = .ok (.i2l, 1) := by decide +kernel
theorem dd_Search_isBetter_17 : decode bb_Search_isBetter 17 = .ok (.lmul, 1) := by decide +kernel
theorem dd_Search_isBetter_18 : decode bb_Search_isBetter 18 = .ok (.iload_n 3, 1) := by decide +kernel
theorem dd_Search_isBetter_19 : decode bb_Search_isBetter 19 = .ok (.i2l, 1) := by decide +kernel
theorem dd_Search_isBetter_20 : decode bb_Search_isBetter 20 = .ok (.aload_n 0, 1) := by decide +kernel
theorem dd_Search_isBetter_21 : decode bb_Search_isBetter 21 = .ok (.getfield 19, 3) := by decide +kernel
theorem dd_Search_isBetter_24 : decode bb_Search_isBetter 24 = .ok (.i2l, 1) := by decide +kernel
theorem dd_Search_isBetter_25 : decode bb_Search_isBetter 25 = .ok (.lmul, 1) := by decide +kernel
theorem dd_Search_isBetter_26 : decode bb_Search_isBetter 26 = .ok (.lsub, 1) := by decide +kernel
theorem dd_Search_isBetter_27 : decode bb_Search_isBetter 27 = .ok (.lstore 5, 2) := by decide +kernel
theorem dd_Search_isBetter_29 : decode bb_Search_isBetter 29 = .ok (.iconst 0, 1) := by decide +kernel
theorem dd_Search_isBetter_30 : decode bb_Search_isBetter 30 = .ok (.istore 7, 2) := by decide +kernel
theorem dd_Search_isBetter_32 : decode bb_Search_isBetter 32 = .ok (.iload 7, 2) := by decide +kernel
theorem dd_Search_isBetter_34 : decode bb_Search_isBetter 34 = .ok (.aload_n 1, 1) := by decide +kernel
theorem dd_Search_isBetter_35 : decode bb_Search_isBetter 35 = .ok (.getfield 38, 3) := by decide +kernel
theorem dd_Search_isBetter_38 : decode bb_Search_isBetter 38 = .ok (.if_icmp .ge 42, 3) := by decide +kernel
theorem dd_Search_isBetter_41 : decode bb_Search_isBetter 41 = .ok (.lload 5, 2) := by decide +kernel
theorem dd_Search_isBetter_43 : decode bb_Search_isBetter 43 = .ok (.lconst 0, 1) := by decide +kernel
theorem dd_Search_isBetter_44 : decode bb_Search_isBetter 44 = .ok (.lcmp, 1) := by decide +kernel
theorem dd_Search_isBetter_45 : decode bb_Search_isBetter 45 = .ok (.ifCond .ne 35, 3) := by decide +kernel
theorem dd_Search_isBetter_48 : decode bb_Search_isBetter 48 = .ok (.aload_n 0, 1) := by decide +kernel
theorem dd_Search_isBetter_49 : decode bb_Search_isBetter 49 = .ok (.getfield 15, 3) := by decide +kernel
theorem dd_Search_isBetter_52 : decode bb_Search_isBetter 52 = .ok (.iload 7, 2) := by decide +kernel
theorem dd_Search_isBetter_54 : decode bb_Search_isBetter 54 = .ok (.iaload, 1) := by decide +kernel
theorem dd_Search_isBetter_55 : decode bb_Search_isBetter 55 = .ok (.i2l, 1) := by decide +kernel
theorem dd_Search_isBetter_56 : decode bb_Search_isBetter 56 = .ok (.iload 4, 2) := by decide +kernel
theorem dd_Search_isBetter_58 : decode bb_Search_isBetter 58 = .ok (.i2l, 1) := by decide +kernel
theorem dd_Search_isBetter_59 : decode bb_Search_isBetter 59 = .ok (.lmul, 1) := by decide +kernel
theorem dd_Search_isBetter_60 : decode bb_Search_isBetter 60 = .ok (.aload_n 2, 1) := by decide +kernel
theorem dd_Search_isBetter_61 : decode bb_Search_isBetter 61 = .ok (.iload 7, 2) := by decide +kernel
theorem dd_Search_isBetter_63 : decode bb_Search_isBetter 63 = .ok (.iaload, 1) := by decide +kernel
theorem dd_Search_isBetter_64 : decode bb_Search_isBetter 64 = .ok (.i2l, 1) := by decide +kernel
theorem dd_Search_isBetter_65 : decode bb_Search_isBetter 65 = .ok (.aload_n 0, 1) := by decide +kernel
theorem dd_Search_isBetter_66 : decode bb_Search_isBetter 66 = .ok (.getfield 19, 3) := by decide +kernel
theorem dd_Search_isBetter_69 : decode bb_Search_isBetter 69 = .ok (.i2l, 1) := by decide +kernel
theorem dd_Search_isBetter_70 : decode bb_Search_isBetter 70 = .ok (.lmul, 1) := by decide +kernel
theorem dd_Search_isBetter_71 : decode bb_Search_isBetter 71 = .ok (.lsub, 1) := by decide +kernel
theorem dd_Search_isBetter_72 : decode bb_Search_isBetter 72 = .ok (.lstore 5, 2) := by decide +kernel
theorem dd_Search_isBetter_74 : decode bb_Search_isBetter 74 = .ok (.iinc 7 1, 3) := by decide +kernel
theorem dd_Search_isBetter_77 : decode bb_Search_isBetter 77 = .ok (.goto (-45), 3) := by decide +kernel
theorem dd_Search_isBetter_80 : decode bb_Search_isBetter 80 = .ok (.lload 5, 2) := by decide +kernel
theorem dd_Search_isBetter_82 : decode bb_Search_isBetter 82 = .ok (.lconst 0, 1) := by decide +kernel
theorem dd_Search_isBetter_83 : decode bb_Search_isBetter 83 = .ok (.lcmp, 1) := by decide +kernel
theorem dd_Search_isBetter_84 : decode bb_Search_isBetter 84 = .ok (.ifCond .le 7, 3) := by decide +kernel
theorem dd_Search_isBetter_87 : decode bb_Search_isBetter 87 = .ok (.iconst 1, 1) := by decide +kernel
theorem dd_Search_isBetter_88 : decode bb_Search_isBetter 88 = .ok (.goto 4, 3) := by decide +kernel
theorem dd_Search_isBetter_91 : decode bb_Search_isBetter 91 = .ok (.iconst 0, 1) := by decide +kernel
theorem dd_Search_isBetter_92 : decode bb_Search_isBetter 92 = .ok (.ireturn, 1) := by decide +kernel
theorem dd_Search_take_0 : decode bb_Search_take 0 = .ok (.aload_n 0, 1) := by decide +kernel
theorem dd_Search_take_1 : decode bb_Search_take 1 = .ok (.iconst 1, 1) := by decide +kernel
theorem dd_Search_take_2 : decode bb_Search_take 2 = .ok (.putfield 9, 3) := by decide +kernel
theorem dd_Search_take_5 : decode bb_Search_take 5 = .ok (.aload_n 0, 1) := by decide +kernel
theorem dd_Search_take_6 : decode bb_Search_take 6 = .ok (.iload_n 1, 1) := by decide +kernel
theorem dd_Search_take_7 : decode bb_Search_take 7 = .ok (.putfield 23, 3) := by decide +kernel
theorem dd_Search_take_10 : decode bb_Search_take 10 = .ok (.aload_n 0, 1) := by decide +kernel
theorem dd_Search_take_11 : decode bb_Search_take 11 = .ok (.iload_n 2, 1) := by decide +kernel
theorem dd_Search_take_12 : decode bb_Search_take 12 = .ok (.putfield 19, 3) := by decide +kernel
theorem dd_Search_take_15 : decode bb_Search_take 15 = .ok (.iconst 0, 1) := by decide +kernel
theorem dd_Search_take_16 : decode bb_Search_take 16 = .ok (.istore_n 3, 1) := by decide +kernel
theorem dd_Search_take_17 : decode bb_Search_take 17 = .ok (.iload_n 3, 1) := by decide +kernel
theorem dd_Search_take_18 : decode bb_Search_take 18 = .ok (.iconst 4, 1) := by decide +kernel
theorem dd_Search_take_19 : decode bb_Search_take 19 = .ok (.if_icmp .ge 21, 3) := by decide +kernel
theorem dd_Search_take_22 : decode bb_Search_take 22 = .ok (.aload_n 0, 1) := by decide +kernel
theorem dd_Search_take_23 : decode bb_Search_take 23 = .ok (.getfield 15, 3) := by decide +kernel
theorem dd_Search_take_26 : decode bb_Search_take 26 = .ok (.iload_n 3, 1) := by decide +kernel
theorem dd_Search_take_27 : decode bb_Search_take 27 = .ok (.aload_n 0, 1) := by decide +kernel
theorem dd_Search_take_28 : decode bb_Search_take 28 = .ok (.getfield 35, 3) := by decide +kernel
theorem dd_Search_take_31 : decode bb_Search_take 31 = .ok (.iload_n 3, 1) := by decide +kernel
theorem dd_Search_take_32 : decode bb_Search_take 32 = .ok (.iaload, 1) := by decide +kernel
theorem dd_Search_take_33 : decode bb_Search_take 33 = .ok (.iastore, 1) := by decide +kernel
theorem dd_Search_take_34 : decode bb_Search_take 34 = .ok (.iinc 3 1, 3) := by decide +kernel
theorem dd_Search_take_37 : decode bb_Search_take 37 = .ok (.goto (-20), 3) := by decide +kernel
theorem dd_Search_take_40 : decode bb_Search_take 40 = .ok (.return_, 1) := by decide +kernel
