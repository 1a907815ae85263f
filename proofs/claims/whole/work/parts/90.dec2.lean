theorem dd_Model_determinant_230 : decode bb_Model_determinant 230 = .ok (.iload 5, 2) := by decide +kernel
theorem dd_Model_determinant_232 : decode bb_Model_determinant 232 = .ok (.iadd, 1) := by decide +kernel
theorem dd_Model_determinant_233 : decode bb_Model_determinant 233 = .ok (.laload, 1) := by decide +kernel
theorem dd_Model_determinant_234 : decode bb_Model_determinant 234 = .ok (.aload_n 0, 1) := by decide +kernel
theorem dd_Model_determinant_235 : decode bb_Model_determinant 235 = .ok (.getfield 46, 3) := by decide +kernel
theorem dd_Model_determinant_238 : decode bb_Model_determinant 238 = .ok (.iconst 4, 1) := by decide +kernel
theorem dd_Model_determinant_239 : decode bb_Model_determinant 239 = .ok (.iload 5, 2) := by decide +kernel
theorem dd_Model_determinant_241 : decode bb_Model_determinant 241 = .ok (.imul, 1) := by decide +kernel
theorem dd_Model_determinant_242 : decode bb_Model_determinant 242 = .ok (.iload 8, 2) := by decide +kernel
theorem dd_Model_determinant_244 : decode bb_Model_determinant 244 = .ok (.iadd, 1) := by decide +kernel
theorem dd_Model_determinant_245 : decode bb_Model_determinant 245 = .ok (.laload, 1) := by decide +kernel
theorem dd_Model_determinant_246 : decode bb_Model_determinant 246 = .ok (.lmul, 1) := by decide +kernel
theorem dd_Model_determinant_247 : decode bb_Model_determinant 247 = .ok (.lsub, 1) := by decide +kernel
theorem dd_Model_determinant_248 : decode bb_Model_determinant 248 = .ok (.lload_n 3, 1) := by decide +kernel
theorem dd_Model_determinant_249 : decode bb_Model_determinant 249 = .ok (.ldiv, 1) := by decide +kernel
theorem dd_Model_determinant_250 : decode bb_Model_determinant 250 = .ok (.lastore, 1) := by decide +kernel
theorem dd_Model_determinant_251 : decode bb_Model_determinant 251 = .ok (.iinc 8 1, 3) := by decide +kernel
theorem dd_Model_determinant_254 : decode bb_Model_determinant 254 = .ok (.goto (-77), 3) := by decide +kernel
theorem dd_Model_determinant_257 : decode bb_Model_determinant 257 = .ok (.iinc 7 1, 3) := by decide +kernel
theorem dd_Model_determinant_260 : decode bb_Model_determinant 260 = .ok (.goto (-98), 3) := by decide +kernel
theorem dd_Model_determinant_263 : decode bb_Model_determinant 263 = .ok (.aload_n 0, 1) := by decide +kernel
theorem dd_Model_determinant_264 : decode bb_Model_determinant 264 = .ok (.getfield 46, 3) := by decide +kernel
theorem dd_Model_determinant_267 : decode bb_Model_determinant 267 = .ok (.iconst 4, 1) := by decide +kernel
theorem dd_Model_determinant_268 : decode bb_Model_determinant 268 = .ok (.iload 5, 2) := by decide +kernel
theorem dd_Model_determinant_270 : decode bb_Model_determinant 270 = .ok (.imul, 1) := by decide +kernel
theorem dd_Model_determinant_271 : decode bb_Model_determinant 271 = .ok (.iload 5, 2) := by decide +kernel
theorem dd_Model_determinant_273 : decode bb_Model_determinant 273 = .ok (.iadd, 1) := by decide +kernel
theorem dd_Model_determinant_274 : decode bb_Model_determinant 274 = .ok (.laload, 1) := by decide +kernel
theorem dd_Model_determinant_275 : decode bb_Model_determinant 275 = .ok (.lstore_n 3, 1) := by decide +kernel
theorem dd_Model_determinant_276 : decode bb_Model_determinant 276 = .ok (.iinc 5 1, 3) := by decide +kernel
theorem dd_Model_determinant_279 : decode bb_Model_determinant 279 = .ok (.goto (-272), 3) := by decide +kernel
theorem dd_Model_determinant_282 : decode bb_Model_determinant 282 = .ok (.lload_n 1, 1) := by decide +kernel
theorem dd_Model_determinant_283 : decode bb_Model_determinant 283 = .ok (.aload_n 0, 1) := by decide +kernel
theorem dd_Model_determinant_284 : decode bb_Model_determinant 284 = .ok (.getfield 46, 3) := by decide +kernel
theorem dd_Model_determinant_287 : decode bb_Model_determinant 287 = .ok (.iconst 5, 1) := by decide +kernel
theorem dd_Model_determinant_288 : decode bb_Model_determinant 288 = .ok (.aload_n 0, 1) := by decide +kernel
theorem dd_Model_determinant_289 : decode bb_Model_determinant 289 = .ok (.getfield 111, 3) := by decide +kernel
theorem dd_Model_determinant_292 : decode bb_Model_determinant 292 = .ok (.iconst 1, 1) := by decide +kernel
theorem dd_Model_determinant_293 : decode bb_Model_determinant 293 = .ok (.isub, 1) := by decide +kernel
theorem dd_Model_determinant_294 : decode bb_Model_determinant 294 = .ok (.imul, 1) := by decide +kernel
theorem dd_Model_determinant_295 : decode bb_Model_determinant 295 = .ok (.laload, 1) := by decide +kernel
theorem dd_Model_determinant_296 : decode bb_Model_determinant 296 = .ok (.lmul, 1) := by decide +kernel
theorem dd_Model_determinant_297 : decode bb_Model_determinant 297 = .ok (.lreturn, 1) := by decide +kernel
theorem dd_Model_determinantOf_0 : decode bb_Model_determinantOf 0 = .ok (.iconst 0, 1) := by decide +kernel
theorem dd_Model_determinantOf_1 : decode bb_Model_determinantOf 1 = .ok (.istore_n 2, 1) := by decide +kernel
theorem dd_Model_determinantOf_2 : decode bb_Model_determinantOf 2 = .ok (.iload_n 2, 1) := by decide +kernel
theorem dd_Model_determinantOf_3 : decode bb_Model_determinantOf 3 = .ok (.aload_n 0, 1) := by decide +kernel
theorem dd_Model_determinantOf_4 : decode bb_Model_determinantOf 4 = .ok (.getfield 111, 3) := by decide +kernel
theorem dd_Model_determinantOf_7 : decode bb_Model_determinantOf 7 = .ok (.if_icmp .ge 59, 3) := by decide +kernel
theorem dd_Model_determinantOf_10 : decode bb_Model_determinantOf 10 = .ok (.iconst 0, 1) := by decide +kernel
theorem dd_Model_determinantOf_11 : decode bb_Model_determinantOf 11 = .ok (.istore_n 3, 1) := by decide +kernel
theorem dd_Model_determinantOf_12 : decode bb_Model_determinantOf 12 = .ok (.iload_n 3, 1) := by decide +kernel
theorem dd_Model_determinantOf_13 : decode bb_Model_determinantOf 13 = .ok (.aload_n 0, 1) := by decide +kernel
theorem dd_Model_determinantOf_14 : decode bb_Model_determinantOf 14 = .ok (.getfield 111, 3) := by decide +kernel
theorem dd_Model_determinantOf_17 : decode bb_Model_determinantOf 17 = .ok (.if_icmp .ge 43, 3) := by decide +kernel
theorem dd_Model_determinantOf_20 : decode bb_Model_determinantOf 20 = .ok (.aload_n 0, 1) := by decide +kernel
theorem dd_Model_determinantOf_21 : decode bb_Model_determinantOf 21 = .ok (.getfield 46, 3) := by decide +kernel
theorem dd_Model_determinantOf_24 : decode bb_Model_determinantOf 24 = .ok (.iconst 4, 1) := by decide +kernel
theorem dd_Model_determinantOf_25 : decode bb_Model_determinantOf 25 = .ok (.iload_n 2, 1) := by decide +kernel
theorem dd_Model_determinantOf_26 : decode bb_Model_determinantOf 26 = .ok (.imul, 1) := by decide +kernel
theorem dd_Model_determinantOf_27 : decode bb_Model_determinantOf 27 = .ok (.iload_n 3, 1) := by decide +kernel
theorem dd_Model_determinantOf_28 : decode bb_Model_determinantOf 28 = .ok (.iadd, 1) := by decide +kernel
theorem dd_Model_determinantOf_29 : decode bb_Model_determinantOf 29 = .ok (.aload_n 0, 1) := by decide +kernel
theorem dd_Model_determinantOf_30 : decode bb_Model_determinantOf 30 = .ok (.getfield 43, 3) := by decide +kernel
theorem dd_Model_determinantOf_33 : decode bb_Model_determinantOf 33 = .ok (.iconst 5, 1) := by decide +kernel
theorem dd_Model_determinantOf_34 : decode bb_Model_determinantOf 34 = .ok (.aload_n 0, 1) := by decide +kernel
theorem dd_Model_determinantOf_35 : decode bb_Model_determinantOf 35 = .ok (.getfield 49, 3) := by decide +kernel
theorem dd_Model_determinantOf_38 : decode bb_Model_determinantOf 38 = .ok (.iload_n 2, 1) := by decide +kernel
theorem dd_Model_determinantOf_39 : decode bb_Model_determinantOf 39 = .ok (.iaload, 1) := by decide +kernel
theorem dd_Model_determinantOf_40 : decode bb_Model_determinantOf 40 = .ok (.imul, 1) := by decide +kernel
theorem dd_Model_determinantOf_41 : decode bb_Model_determinantOf 41 = .ok (.iload_n 3, 1) := by decide +kernel
theorem dd_Model_determinantOf_42 : decode bb_Model_determinantOf 42 = .ok (.iload_n 1, 1) := by decide +kernel
theorem dd_Model_determinantOf_43 : decode bb_Model_determinantOf 43 = .ok (.if_icmp .ne 7, 3) := by decide +kernel
theorem dd_Model_determinantOf_46 : decode bb_Model_determinantOf 46 = .ok (.iconst 4, 1) := by decide +kernel
theorem dd_Model_determinantOf_47 : decode bb_Model_determinantOf 47 = .ok (.goto 4, 3) := by decide +kernel
theorem dd_Model_determinantOf_50 : decode bb_Model_determinantOf 50 = .ok (.iload_n 3, 1) := by decide +kernel
theorem dd_Model_determinantOf_51 : decode bb_Model_determinantOf 51 = .ok (.iadd, 1) := by decide +kernel
theorem dd_Model_determinantOf_52 : decode bb_Model_determinantOf 52 = .ok (.laload, 1) := by decide +kernel
theorem dd_Model_determinantOf_53 : decode bb_Model_determinantOf 53 = .ok (.lastore, 1) := by decide +kernel
theorem dd_Model_determinantOf_54 : decode bb_Model_determinantOf 54 = .ok (.iinc 3 1, 3) := by decide +kernel
theorem dd_Model_determinantOf_57 : decode bb_Model_determinantOf 57 = .ok (.goto (-45), 3) := by decide +kernel
theorem dd_Model_determinantOf_60 : decode bb_Model_determinantOf 60 = .ok (.iinc 2 1, 3) := by decide +kernel
theorem dd_Model_determinantOf_63 : decode bb_Model_determinantOf 63 = .ok (.goto (-61), 3) := by decide +kernel
theorem dd_Model_determinantOf_66 : decode bb_Model_determinantOf 66 = .ok (.aload_n 0, 1) := by decide +kernel
theorem dd_Model_determinantOf_67 : decode bb_Model_determinantOf 67 = .ok (.invokevirtual 114, 3) := by decide +kernel
theorem dd_Model_determinantOf_70 : decode bb_Model_determinantOf 70 = .ok (.lreturn, 1) := by decide +kernel
theorem dd_Model_corner_0 : decode bb_Model_corner 0 = .ok (.aload_n 0, 1) := by decide +kernel
theorem dd_Model_corner_1 : decode bb_Model_corner 1 = .ok (.iconst (-1), 1) := by decide +kernel
theorem dd_Model_corner_2 : decode bb_Model_corner 2 = .ok (.invokevirtual 118, 3) := by decide +kernel
theorem dd_Model_corner_5 : decode bb_Model_corner 5 = .ok (.lstore_n 2, 1) := by decide +kernel
theorem dd_Model_corner_6 : decode bb_Model_corner 6 = .ok (.lload_n 2, 1) := by decide +kernel
theorem dd_Model_corner_7 : decode bb_Model_corner 7 = .ok (.lconst 0, 1) := by decide +kernel
theorem dd_Model_corner_8 : decode bb_Model_corner 8 = .ok (.lcmp, 1) := by decide +kernel
theorem dd_Model_corner_9 : decode bb_Model_corner 9 = .ok (.ifCond .ne 4, 3) := by decide +kernel
theorem dd_Model_corner_12 : decode bb_Model_corner 12 = .ok (.return_, 1) := by decide +kernel
theorem dd_Model_corner_13 : decode bb_Model_corner 13 = .ok (.lload_n 2, 1) := by decide +kernel
theorem dd_Model_corner_14 : decode bb_Model_corner 14 = .ok (.lconst 0, 1) := by decide +kernel
theorem dd_Model_corner_15 : decode bb_Model_corner 15 = .ok (.lcmp, 1) := by decide +kernel
theorem dd_Model_corner_16 : decode bb_Model_corner 16 = .ok (.ifCond .ge 9, 3) := by decide +kernel
theorem dd_Model_corner_19 : decode bb_Model_corner 19 = .ok (.ldc2_w 122, 3) := by decide +kernel
theorem dd_Model_corner_22 : decode bb_Model_corner 22 = .ok (.goto 4, 3) := by decide +kernel
theorem dd_Model_corner_25 : decode bb_Model_corner 25 = .ok (.lconst 1, 1) := by decide +kernel
theorem dd_Model_corner_26 : decode bb_Model_corner 26 = .ok (.lstore 4, 2) := by decide +kernel
theorem dd_Model_corner_28 : decode bb_Model_corner 28 = .ok (.aload_n 0, 1) := by decide +kernel
theorem dd_Model_corner_29 : decode bb_Model_corner 29 = .ok (.lload_n 2, 1) := by decide +kernel
theorem dd_Model_corner_30 : decode bb_Model_corner 30 = .ok (.lload 4, 2) := by decide +kernel
theorem dd_Model_corner_32 : decode bb_Model_corner 32 = .ok (.lmul, 1) := by decide +kernel
theorem dd_Model_corner_33 : decode bb_Model_corner 33 = .ok (.putfield 93, 3) := by decide +kernel
theorem dd_Model_corner_36 : decode bb_Model_corner 36 = .ok (.iconst 0, 1) := by decide +kernel
theorem dd_Model_corner_37 : decode bb_Model_corner 37 = .ok (.istore 6, 2) := by decide +kernel
theorem dd_Model_corner_39 : decode bb_Model_corner 39 = .ok (.iload 6, 2) := by decide +kernel
theorem dd_Model_corner_41 : decode bb_Model_corner 41 = .ok (.aload_n 0, 1) := by decide +kernel
theorem dd_Model_corner_42 : decode bb_Model_corner 42 = .ok (.getfield 7, 3) := by decide +kernel
theorem dd_Model_corner_45 : decode bb_Model_corner 45 = .ok (.if_icmp .ge 25, 3) := by decide +kernel
theorem dd_Model_corner_48 : decode bb_Model_corner 48 = .ok (.aload_n 0, 1) := by decide +kernel
theorem dd_Model_corner_49 : decode bb_Model_corner 49 = .ok (.getfield 37, 3) := by decide +kernel
theorem dd_Model_corner_52 : decode bb_Model_corner 52 = .ok (.iload 6, 2) := by decide +kernel
theorem dd_Model_corner_54 : decode bb_Model_corner 54 = .ok (.aload_n 1, 1) := by decide +kernel
theorem dd_Model_corner_55 : decode bb_Model_corner 55 = .ok (.iload 6, 2) := by decide +kernel
theorem dd_Model_corner_57 : decode bb_Model_corner 57 = .ok (.laload, 1) := by decide +kernel
theorem dd_Model_corner_58 : decode bb_Model_corner 58 = .ok (.aload_n 0, 1) := by decide +kernel
theorem dd_Model_corner_59 : decode bb_Model_corner 59 = .ok (.getfield 93, 3) := by decide +kernel
theorem dd_Model_corner_62 : decode bb_Model_corner 62 = .ok (.lmul, 1) := by decide +kernel
theorem dd_Model_corner_63 : decode bb_Model_corner 63 = .ok (.lastore, 1) := by decide +kernel
theorem dd_Model_corner_64 : decode bb_Model_corner 64 = .ok (.iinc 6 1, 3) := by decide +kernel
theorem dd_Model_corner_67 : decode bb_Model_corner 67 = .ok (.goto (-28), 3) := by decide +kernel
theorem dd_Model_corner_70 : decode bb_Model_corner 70 = .ok (.iconst 0, 1) := by decide +kernel
theorem dd_Model_corner_71 : decode bb_Model_corner 71 = .ok (.istore 6, 2) := by decide +kernel
theorem dd_Model_corner_73 : decode bb_Model_corner 73 = .ok (.iload 6, 2) := by decide +kernel
theorem dd_Model_corner_75 : decode bb_Model_corner 75 = .ok (.aload_n 0, 1) := by decide +kernel
theorem dd_Model_corner_76 : decode bb_Model_corner 76 = .ok (.getfield 111, 3) := by decide +kernel
theorem dd_Model_corner_79 : decode bb_Model_corner 79 = .ok (.if_icmp .ge 30, 3) := by decide +kernel
theorem dd_Model_corner_82 : decode bb_Model_corner 82 = .ok (.aload_n 0, 1) := by decide +kernel
theorem dd_Model_corner_83 : decode bb_Model_corner 83 = .ok (.getfield 37, 3) := by decide +kernel
theorem dd_Model_corner_86 : decode bb_Model_corner 86 = .ok (.aload_n 0, 1) := by decide +kernel
theorem dd_Model_corner_87 : decode bb_Model_corner 87 = .ok (.getfield 40, 3) := by decide +kernel
theorem dd_Model_corner_90 : decode bb_Model_corner 90 = .ok (.iload 6, 2) := by decide +kernel
theorem dd_Model_corner_92 : decode bb_Model_corner 92 = .ok (.iaload, 1) := by decide +kernel
theorem dd_Model_corner_93 : decode bb_Model_corner 93 = .ok (.aload_n 0, 1) := by decide +kernel
theorem dd_Model_corner_94 : decode bb_Model_corner 94 = .ok (.iload 6, 2) := by decide +kernel
theorem dd_Model_corner_96 : decode bb_Model_corner 96 = .ok (.invokevirtual 118, 3) := by decide +kernel
theorem dd_Model_corner_99 : decode bb_Model_corner 99 = .ok (.lload 4, 2) := by decide +kernel
theorem dd_Model_corner_101 : decode bb_Model_corner 101 = .ok (.lmul, 1) := by decide +kernel
theorem dd_Model_corner_102 : decode bb_Model_corner 102 = .ok (.lastore, 1) := by decide +kernel
theorem dd_Model_corner_103 : decode bb_Model_corner 103 = .ok (.iinc 6 1, 3) := by decide +kernel
theorem dd_Model_corner_106 : decode bb_Model_corner 106 = .ok (.goto (-33), 3) := by decide +kernel
theorem dd_Model_corner_109 : decode bb_Model_corner 109 = .ok (.aload_n 0, 1) := by decide +kernel
theorem dd_Model_corner_110 : decode bb_Model_corner 110 = .ok (.invokevirtual 124, 3) := by decide +kernel
theorem dd_Model_corner_113 : decode bb_Model_corner 113 = .ok (.return_, 1) := by decide +kernel
theorem dd_Model_makeRows_0 : decode bb_Model_makeRows 0 = .ok (.aload_n 0, 1) := by decide +kernel
theorem dd_Model_makeRows_1 : decode bb_Model_makeRows 1 = .ok (.iconst 0, 1) := by decide +kernel
theorem dd_Model_makeRows_2 : decode bb_Model_makeRows 2 = .ok (.putfield 127, 3) := by decide +kernel
theorem dd_Model_makeRows_5 : decode bb_Model_makeRows 5 = .ok (.iconst 0, 1) := by decide +kernel
theorem dd_Model_makeRows_6 : decode bb_Model_makeRows 6 = .ok (.istore_n 2, 1) := by decide +kernel
theorem dd_Model_makeRows_7 : decode bb_Model_makeRows 7 = .ok (.iload_n 2, 1) := by decide +kernel
theorem dd_Model_makeRows_8 : decode bb_Model_makeRows 8 = .ok (.iconst 2, 1) := by decide +kernel
theorem dd_Model_makeRows_9 : decode bb_Model_makeRows 9 = .ok (.aload_n 0, 1) := by decide +kernel
theorem dd_Model_makeRows_10 : decode bb_Model_makeRows 10 = .ok (.getfield 111, 3) := by decide +kernel
theorem dd_Model_makeRows_13 : decode bb_Model_makeRows 13 = .ok (.imul, 1) := by decide +kernel
theorem dd_Model_makeRows_14 : decode bb_Model_makeRows 14 = .ok (.if_icmp .ge 107, 3) := by decide +kernel
theorem dd_Model_makeRows_17 : decode bb_Model_makeRows 17 = .ok (.iconst 0, 1) := by decide +kernel
theorem dd_Model_makeRows_18 : decode bb_Model_makeRows 18 = .ok (.istore_n 3, 1) := by decide +kernel
theorem dd_Model_makeRows_19 : decode bb_Model_makeRows 19 = .ok (.iload_n 3, 1) := by decide +kernel
theorem dd_Model_makeRows_20 : decode bb_Model_makeRows 20 = .ok (.iconst 4, 1) := by decide +kernel
theorem dd_Model_makeRows_21 : decode bb_Model_makeRows 21 = .ok (.if_icmp .ge 34, 3) := by decide +kernel
theorem dd_Model_makeRows_24 : decode bb_Model_makeRows 24 = .ok (.aload_n 0, 1) := by decide +kernel
theorem dd_Model_makeRows_25 : decode bb_Model_makeRows 25 = .ok (.getfield 43, 3) := by decide +kernel
theorem dd_Model_makeRows_28 : decode bb_Model_makeRows 28 = .ok (.iconst 5, 1) := by decide +kernel
theorem dd_Model_makeRows_29 : decode bb_Model_makeRows 29 = .ok (.aload_n 0, 1) := by decide +kernel
theorem dd_Model_makeRows_30 : decode bb_Model_makeRows 30 = .ok (.getfield 127, 3) := by decide +kernel
theorem dd_Model_makeRows_33 : decode bb_Model_makeRows 33 = .ok (.imul, 1) := by decide +kernel
theorem dd_Model_makeRows_34 : decode bb_Model_makeRows 34 = .ok (.iload_n 3, 1) := by decide +kernel
theorem dd_Model_makeRows_35 : decode bb_Model_makeRows 35 = .ok (.iadd, 1) := by decide +kernel
theorem dd_Model_makeRows_36 : decode bb_Model_makeRows 36 = .ok (.iload_n 3, 1) := by decide +kernel
theorem dd_Model_makeRows_37 : decode bb_Model_makeRows 37 = .ok (.iload_n 2, 1) := by decide +kernel
theorem dd_Model_makeRows_38 : decode bb_Model_makeRows 38 = .ok (.iconst 2, 1) := by decide +kernel
theorem dd_Model_makeRows_39 : decode bb_Model_makeRows 39 = .ok (.idiv, 1) := by decide +kernel
theorem dd_Model_makeRows_40 : decode bb_Model_makeRows 40 = .ok (.if_icmp .ne 7, 3) := by decide +kernel
theorem dd_Model_makeRows_43 : decode bb_Model_makeRows 43 = .ok (.lconst 1, 1) := by decide +kernel
theorem dd_Model_makeRows_44 : decode bb_Model_makeRows 44 = .ok (.goto 4, 3) := by decide +kernel
theorem dd_Model_makeRows_47 : decode bb_Model_makeRows 47 = .ok (.lconst 0, 1) := by decide +kernel
theorem dd_Model_makeRows_48 : decode bb_Model_makeRows 48 = .ok (.lastore, 1) := by decide +kernel
theorem dd_Model_makeRows_49 : decode bb_Model_makeRows 49 = .ok (.iinc 3 1, 3) := by decide +kernel
theorem dd_Model_makeRows_52 : decode bb_Model_makeRows 52 = .ok (.goto (-33), 3) := by decide +kernel
theorem dd_Model_makeRows_55 : decode bb_Model_makeRows 55 = .ok (.aload_n 0, 1) := by decide +kernel
theorem dd_Model_makeRows_56 : decode bb_Model_makeRows 56 = .ok (.getfield 43, 3) := by decide +kernel
theorem dd_Model_makeRows_59 : decode bb_Model_makeRows 59 = .ok (.iconst 5, 1) := by decide +kernel
theorem dd_Model_makeRows_60 : decode bb_Model_makeRows 60 = .ok (.aload_n 0, 1) := by decide +kernel
theorem dd_Model_makeRows_61 : decode bb_Model_makeRows 61 = .ok (.getfield 127, 3) := by decide +kernel
theorem dd_Model_makeRows_64 : decode bb_Model_makeRows 64 = .ok (.imul, 1) := by decide +kernel
theorem dd_Model_makeRows_65 : decode bb_Model_makeRows 65 = .ok (.iconst 4, 1) := by decide +kernel
theorem dd_Model_makeRows_66 : decode bb_Model_makeRows 66 = .ok (.iadd, 1) := by decide +kernel
theorem dd_Model_makeRows_67 : decode bb_Model_makeRows 67 = .ok (.iload_n 2, 1) := by decide +kernel
theorem dd_Model_makeRows_68 : decode bb_Model_makeRows 68 = .ok (.iconst 2, 1) := by decide +kernel
theorem dd_Model_makeRows_69 : decode bb_Model_makeRows 69 = .ok (.irem, 1) := by decide +kernel
theorem dd_Model_makeRows_70 : decode bb_Model_makeRows 70 = .ok (.ifCond .ne 20, 3) := by decide +kernel
theorem dd_Model_makeRows_73 : decode bb_Model_makeRows 73 = .ok (.aload_n 0, 1) := by decide +kernel
theorem dd_Model_makeRows_74 : decode bb_Model_makeRows 74 = .ok (.getfield 13, 3) := by decide +kernel
theorem dd_Model_makeRows_77 : decode bb_Model_makeRows 77 = .ok (.aload_n 0, 1) := by decide +kernel
theorem dd_Model_makeRows_78 : decode bb_Model_makeRows 78 = .ok (.getfield 40, 3) := by decide +kernel
theorem dd_Model_makeRows_81 : decode bb_Model_makeRows 81 = .ok (.iload_n 2, 1) := by decide +kernel
theorem dd_Model_makeRows_82 : decode bb_Model_makeRows 82 = .ok (.iconst 2, 1) := by decide +kernel
theorem dd_Model_makeRows_83 : decode bb_Model_makeRows 83 = .ok (.idiv, 1) := by decide +kernel
theorem dd_Model_makeRows_84 : decode bb_Model_makeRows 84 = .ok (.iaload, 1) := by decide +kernel
theorem dd_Model_makeRows_85 : decode bb_Model_makeRows 85 = .ok (.iaload, 1) := by decide +kernel
theorem dd_Model_makeRows_86 : decode bb_Model_makeRows 86 = .ok (.i2l, 1) := by decide +kernel
theorem dd_Model_makeRows_87 : decode bb_Model_makeRows 87 = .ok (.goto 17, 3) := by decide +kernel
theorem dd_Model_makeRows_90 : decode bb_Model_makeRows 90 = .ok (.aload_n 0, 1) := by decide +kernel
theorem dd_Model_makeRows_91 : decode bb_Model_makeRows 91 = .ok (.getfield 17, 3) := by decide +kernel
theorem dd_Model_makeRows_94 : decode bb_Model_makeRows 94 = .ok (.aload_n 0, 1) := by decide +kernel
theorem dd_Model_makeRows_95 : decode bb_Model_makeRows 95 = .ok (.getfield 40, 3) := by decide +kernel
theorem dd_Model_makeRows_98 : decode bb_Model_makeRows 98 = .ok (.iload_n 2, 1) := by decide +kernel
theorem dd_Model_makeRows_99 : decode bb_Model_makeRows 99 = .ok (.iconst 2, 1) := by decide +kernel
theorem dd_Model_makeRows_100 : decode bb_Model_makeRows 100 = .ok (.idiv, 1) := by decide +kernel
theorem dd_Model_makeRows_101 : decode bb_Model_makeRows 101 = .ok (.iaload, 1) := by decide +kernel
theorem dd_Model_makeRows_102 : decode bb_Model_makeRows 102 = .ok (.iaload, 1) := by decide +kernel
theorem dd_Model_makeRows_103 : decode bb_Model_makeRows 103 = .ok (.i2l, 1) := by decide +kernel
theorem dd_Model_makeRows_104 : decode bb_Model_makeRows 104 = .ok (.lastore, 1) := by decide +kernel
theorem dd_Model_makeRows_105 : decode bb_Model_makeRows 105 = .ok (.aload_n 0, 1) := by decide +kernel
theorem dd_Model_makeRows_106 : decode bb_Model_makeRows 106 = .ok (.dup, 1) := by decide +kernel
theorem dd_Model_makeRows_107 : decode bb_Model_makeRows 107 = .ok (.getfield 127, 3) := by decide +kernel
theorem dd_Model_makeRows_110 : decode bb_Model_makeRows 110 = .ok (.iconst 1, 1) := by decide +kernel
theorem dd_Model_makeRows_111 : decode bb_Model_makeRows 111 = .ok (.iadd, 1) := by decide +kernel
theorem dd_Model_makeRows_112 : decode bb_Model_makeRows 112 = .ok (.putfield 127, 3) := by decide +kernel
theorem dd_Model_makeRows_115 : decode bb_Model_makeRows 115 = .ok (.iinc 2 1, 3) := by decide +kernel
theorem dd_Model_makeRows_118 : decode bb_Model_makeRows 118 = .ok (.goto (-111), 3) := by decide +kernel
theorem dd_Model_makeRows_121 : decode bb_Model_makeRows 121 = .ok (.iconst 0, 1) := by decide +kernel
theorem dd_Model_makeRows_122 : decode bb_Model_makeRows 122 = .ok (.istore_n 2, 1) := by decide +kernel
theorem dd_Model_makeRows_123 : decode bb_Model_makeRows 123 = .ok (.iload_n 2, 1) := by decide +kernel
theorem dd_Model_makeRows_124 : decode bb_Model_makeRows 124 = .ok (.aload_n 0, 1) := by decide +kernel
theorem dd_Model_makeRows_125 : decode bb_Model_makeRows 125 = .ok (.getfield 83, 3) := by decide +kernel
theorem dd_Model_makeRows_128 : decode bb_Model_makeRows 128 = .ok (.if_icmp .ge 138, 3) := by decide +kernel
theorem dd_Model_makeRows_131 : decode bb_Model_makeRows 131 = .ok (.aload_n 0, 1) := by decide +kernel
theorem dd_Model_makeRows_132 : decode bb_Model_makeRows 132 = .ok (.getfield 30, 3) := by decide +kernel
theorem dd_Model_makeRows_135 : decode bb_Model_makeRows 135 = .ok (.iload_n 2, 1) := by decide +kernel
theorem dd_Model_makeRows_136 : decode bb_Model_makeRows 136 = .ok (.iaload, 1) := by decide +kernel
theorem dd_Model_makeRows_137 : decode bb_Model_makeRows 137 = .ok (.i2l, 1) := by decide +kernel
theorem dd_Model_makeRows_138 : decode bb_Model_makeRows 138 = .ok (.lstore_n 3, 1) := by decide +kernel
theorem dd_Model_makeRows_139 : decode bb_Model_makeRows 139 = .ok (.iconst 0, 1) := by decide +kernel
theorem dd_Model_makeRows_140 : decode bb_Model_makeRows 140 = .ok (.istore 5, 2) := by decide +kernel
theorem dd_Model_makeRows_142 : decode bb_Model_makeRows 142 = .ok (.iload 5, 2) := by decide +kernel
theorem dd_Model_makeRows_144 : decode bb_Model_makeRows 144 = .ok (.aload_n 0, 1) := by decide +kernel
theorem dd_Model_makeRows_145 : decode bb_Model_makeRows 145 = .ok (.getfield 7, 3) := by decide +kernel
theorem dd_Model_makeRows_148 : decode bb_Model_makeRows 148 = .ok (.if_icmp .ge 29, 3) := by decide +kernel
theorem dd_Model_makeRows_151 : decode bb_Model_makeRows 151 = .ok (.lload_n 3, 1) := by decide +kernel
theorem dd_Model_makeRows_152 : decode bb_Model_makeRows 152 = .ok (.aload_n 0, 1) := by decide +kernel
theorem dd_Model_makeRows_153 : decode bb_Model_makeRows 153 = .ok (.getfield 27, 3) := by decide +kernel
theorem dd_Model_makeRows_156 : decode bb_Model_makeRows 156 = .ok (.iconst 4, 1) := by decide +kernel
theorem dd_Model_makeRows_157 : decode bb_Model_makeRows 157 = .ok (.iload_n 2, 1) := by decide +kernel
theorem dd_Model_makeRows_158 : decode bb_Model_makeRows 158 = .ok (.imul, 1) := by decide +kernel
theorem dd_Model_makeRows_159 : decode bb_Model_makeRows 159 = .ok (.iload 5, 2) := by decide +kernel
theorem dd_Model_makeRows_161 : decode bb_Model_makeRows 161 = .ok (.iadd, 1) := by decide +kernel
theorem dd_Model_makeRows_162 : decode bb_Model_makeRows 162 = .ok (.iaload, 1) := by decide +kernel
theorem dd_Model_makeRows_163 : decode bb_Model_makeRows 163 = .ok (.i2l, 1) := by decide +kernel
theorem dd_Model_makeRows_164 : decode bb_Model_makeRows 164 = .ok (.aload_n 1, 1) := by decide +kernel
theorem dd_Model_makeRows_165 : decode bb_Model_makeRows 165 = .ok (.iload 5, 2) := by decide +kernel
theorem dd_Model_makeRows_167 : decode bb_Model_makeRows 167 = .ok (.laload, 1) := by decide +kernel
theorem dd_Model_makeRows_168 : decode bb_Model_makeRows 168 = .ok (.lmul, 1) := by decide +kernel
theorem dd_Model_makeRows_169 : decode bb_Model_makeRows 169 = .ok (.lsub, 1) := by decide +kernel
theorem dd_Model_makeRows_170 : decode bb_Model_makeRows 170 = .ok (.lstore_n 3, 1) := by decide +kernel
theorem dd_Model_makeRows_171 : decode bb_Model_makeRows 171 = .ok (.iinc 5 1, 3) := by decide +kernel
theorem dd_Model_makeRows_174 : decode bb_Model_makeRows 174 = .ok (.goto (-32), 3) := by decide +kernel
theorem dd_Model_makeRows_177 : decode bb_Model_makeRows 177 = .ok (.iconst 0, 1) := by decide +kernel
theorem dd_Model_makeRows_178 : decode bb_Model_makeRows 178 = .ok (.istore 5, 2) := by decide +kernel
theorem dd_Model_makeRows_180 : decode bb_Model_makeRows 180 = .ok (.iload 5, 2) := by decide +kernel
theorem dd_Model_makeRows_182 : decode bb_Model_makeRows 182 = .ok (.iconst 4, 1) := by decide +kernel
theorem dd_Model_makeRows_183 : decode bb_Model_makeRows 183 = .ok (.if_icmp .ge 53, 3) := by decide +kernel
theorem dd_Model_makeRows_186 : decode bb_Model_makeRows 186 = .ok (.aload_n 0, 1) := by decide +kernel
theorem dd_Model_makeRows_187 : decode bb_Model_makeRows 187 = .ok (.getfield 43, 3) := by decide +kernel
theorem dd_Model_makeRows_190 : decode bb_Model_makeRows 190 = .ok (.iconst 5, 1) := by decide +kernel
theorem dd_Model_makeRows_191 : decode bb_Model_makeRows 191 = .ok (.aload_n 0, 1) := by decide +kernel
theorem dd_Model_makeRows_192 : decode bb_Model_makeRows 192 = .ok (.getfield 127, 3) := by decide +kernel
theorem dd_Model_makeRows_195 : decode bb_Model_makeRows 195 = .ok (.imul, 1) := by decide +kernel
theorem dd_Model_makeRows_196 : decode bb_Model_makeRows 196 = .ok (.iload 5, 2) := by decide +kernel
theorem dd_Model_makeRows_198 : decode bb_Model_makeRows 198 = .ok (.iadd, 1) := by decide +kernel
theorem dd_Model_makeRows_199 : decode bb_Model_makeRows 199 = .ok (.iload 5, 2) := by decide +kernel
theorem dd_Model_makeRows_201 : decode bb_Model_makeRows 201 = .ok (.aload_n 0, 1) := by decide +kernel
theorem dd_Model_makeRows_202 : decode bb_Model_makeRows 202 = .ok (.getfield 111, 3) := by decide +kernel
theorem dd_Model_makeRows_205 : decode bb_Model_makeRows 205 = .ok (.if_icmp .ge 23, 3) := by decide +kernel
theorem dd_Model_makeRows_208 : decode bb_Model_makeRows 208 = .ok (.aload_n 0, 1) := by decide +kernel
theorem dd_Model_makeRows_209 : decode bb_Model_makeRows 209 = .ok (.getfield 27, 3) := by decide +kernel
theorem dd_Model_makeRows_212 : decode bb_Model_makeRows 212 = .ok (.iconst 4, 1) := by decide +kernel
theorem dd_Model_makeRows_213 : decode bb_Model_makeRows 213 = .ok (.iload_n 2, 1) := by decide +kernel
theorem dd_Model_makeRows_214 : decode bb_Model_makeRows 214 = .ok (.imul, 1) := by decide +kernel
theorem dd_Model_makeRows_215 : decode bb_Model_makeRows 215 = .ok (.aload_n 0, 1) := by decide +kernel
theorem dd_Model_makeRows_216 : decode bb_Model_makeRows 216 = .ok (.getfield 40, 3) := by decide +kernel
theorem dd_Model_makeRows_219 : decode bb_Model_makeRows 219 = .ok (.iload 5, 2) := by decide +kernel
theorem dd_Model_makeRows_221 : decode bb_Model_makeRows 221 = .ok (.iaload, 1) := by decide +kernel
theorem dd_Model_makeRows_222 : decode bb_Model_makeRows 222 = .ok (.iadd, 1) := by decide +kernel
theorem dd_Model_makeRows_223 : decode bb_Model_makeRows 223 = .ok (.iaload, 1) := by decide +kernel
theorem dd_Model_makeRows_224 : decode bb_Model_makeRows 224 = .ok (.i2l, 1) := by decide +kernel
theorem dd_Model_makeRows_225 : decode bb_Model_makeRows 225 = .ok (.goto 4, 3) := by decide +kernel
theorem dd_Model_makeRows_228 : decode bb_Model_makeRows 228 = .ok (.lconst 0, 1) := by decide +kernel
theorem dd_Model_makeRows_229 : decode bb_Model_makeRows 229 = .ok (.lastore, 1) := by decide +kernel
theorem dd_Model_makeRows_230 : decode bb_Model_makeRows 230 = .ok (.iinc 5 1, 3) := by decide +kernel
theorem dd_Model_makeRows_233 : decode bb_Model_makeRows 233 = .ok (.goto (-53), 3) := by decide +kernel
theorem dd_Model_makeRows_236 : decode bb_Model_makeRows 236 = .ok (.aload_n 0, 1) := by decide +kernel
theorem dd_Model_makeRows_237 : decode bb_Model_makeRows 237 = .ok (.getfield 43, 3) := by decide +kernel
theorem dd_Model_makeRows_240 : decode bb_Model_makeRows 240 = .ok (.iconst 5, 1) := by decide +kernel
theorem dd_Model_makeRows_241 : decode bb_Model_makeRows 241 = .ok (.aload_n 0, 1) := by decide +kernel
theorem dd_Model_makeRows_242 : decode bb_Model_makeRows 242 = .ok (.getfield 127, 3) := by decide +kernel
theorem dd_Model_makeRows_245 : decode bb_Model_makeRows 245 = .ok (.imul, 1) := by decide +kernel
theorem dd_Model_makeRows_246 : decode bb_Model_makeRows 246 = .ok (.iconst 4, 1) := by decide +kernel
theorem dd_Model_makeRows_247 : decode bb_Model_makeRows 247 = .ok (.iadd, 1) := by decide +kernel
theorem dd_Model_makeRows_248 : decode bb_Model_makeRows 248 = .ok (.lload_n 3, 1) := by decide +kernel
theorem dd_Model_makeRows_249 : decode bb_Model_makeRows 249 = .ok (.lastore, 1) := by decide +kernel
theorem dd_Model_makeRows_250 : decode bb_Model_makeRows 250 = .ok (.aload_n 0, 1) := by decide +kernel
theorem dd_Model_makeRows_251 : decode bb_Model_makeRows 251 = .ok (.dup, 1) := by decide +kernel
theorem dd_Model_makeRows_252 : decode bb_Model_makeRows 252 = .ok (.getfield 127, 3) := by decide +kernel
theorem dd_Model_makeRows_255 : decode bb_Model_makeRows 255 = .ok (.iconst 1, 1) := by decide +kernel
theorem dd_Model_makeRows_256 : decode bb_Model_makeRows 256 = .ok (.iadd, 1) := by decide +kernel
theorem dd_Model_makeRows_257 : decode bb_Model_makeRows 257 = .ok (.putfield 127, 3) := by decide +kernel
theorem dd_Model_makeRows_260 : decode bb_Model_makeRows 260 = .ok (.iinc 2 1, 3) := by decide +kernel
theorem dd_Model_makeRows_263 : decode bb_Model_makeRows 263 = .ok (.goto (-140), 3) := by decide +kernel
theorem dd_Model_makeRows_266 : decode bb_Model_makeRows 266 = .ok (.return_, 1) := by decide +kernel
theorem dd_Model_corners_0 : decode bb_Model_corners 0 = .ok (.aload_n 0, 1) := by decide +kernel
theorem dd_Model_corners_1 : decode bb_Model_corners 1 = .ok (.getfield 111, 3) := by decide +kernel
theorem dd_Model_corners_4 : decode bb_Model_corners 4 = .ok (.ifCond .ne 38, 3) := by decide +kernel
theorem dd_Model_corners_7 : decode bb_Model_corners 7 = .ok (.aload_n 0, 1) := by decide +kernel
theorem dd_Model_corners_8 : decode bb_Model_corners 8 = .ok (.lconst 1, 1) := by decide +kernel
theorem dd_Model_corners_9 : decode bb_Model_corners 9 = .ok (.putfield 93, 3) := by decide +kernel
theorem dd_Model_corners_12 : decode bb_Model_corners 12 = .ok (.iconst 0, 1) := by decide +kernel
theorem dd_Model_corners_13 : decode bb_Model_corners 13 = .ok (.istore_n 2, 1) := by decide +kernel
theorem dd_Model_corners_14 : decode bb_Model_corners 14 = .ok (.iload_n 2, 1) := by decide +kernel
theorem dd_Model_corners_15 : decode bb_Model_corners 15 = .ok (.aload_n 0, 1) := by decide +kernel
theorem dd_Model_corners_16 : decode bb_Model_corners 16 = .ok (.getfield 7, 3) := by decide +kernel
theorem dd_Model_corners_19 : decode bb_Model_corners 19 = .ok (.if_icmp .ge 18, 3) := by decide +kernel
theorem dd_Model_corners_22 : decode bb_Model_corners 22 = .ok (.aload_n 0, 1) := by decide +kernel
theorem dd_Model_corners_23 : decode bb_Model_corners 23 = .ok (.getfield 37, 3) := by decide +kernel
theorem dd_Model_corners_26 : decode bb_Model_corners 26 = .ok (.iload_n 2, 1) := by decide +kernel
theorem dd_Model_corners_27 : decode bb_Model_corners 27 = .ok (.aload_n 1, 1) := by decide +kernel
theorem dd_Model_corners_28 : decode bb_Model_corners 28 = .ok (.iload_n 2, 1) := by decide +kernel
theorem dd_Model_corners_29 : decode bb_Model_corners 29 = .ok (.laload, 1) := by decide +kernel
theorem dd_Model_corners_30 : decode bb_Model_corners 30 = .ok (.lastore, 1) := by decide +kernel
theorem dd_Model_corners_31 : decode bb_Model_corners 31 = .ok (.iinc 2 1, 3) := by decide +kernel
theorem dd_Model_corners_34 : decode bb_Model_corners 34 = .ok (.goto (-20), 3) := by decide +kernel
theorem dd_Model_corners_37 : decode bb_Model_corners 37 = .ok (.aload_n 0, 1) := by decide +kernel
theorem dd_Model_corners_38 : decode bb_Model_corners 38 = .ok (.invokevirtual 124, 3) := by decide +kernel
theorem dd_Model_corners_41 : decode bb_Model_corners 41 = .ok (.return_, 1) := by decide +kernel
theorem dd_Model_corners_42 : decode bb_Model_corners 42 = .ok (.aload_n 0, 1) := by decide +kernel
theorem dd_Model_corners_43 : decode bb_Model_corners 43 = .ok (.aload_n 1, 1) := by decide +kernel
theorem dd_Model_corners_44 : decode bb_Model_corners 44 = .ok (.invokevirtual 130, 3) := by decide +kernel
theorem dd_Model_corners_47 : decode bb_Model_corners 47 = .ok (.iconst 0, 1) := by decide +kernel
theorem dd_Model_corners_48 : decode bb_Model_corners 48 = .ok (.istore_n 2, 1) := by decide +kernel
theorem dd_Model_corners_49 : decode bb_Model_corners 49 = .ok (.iload_n 2, 1) := by decide +kernel
theorem dd_Model_corners_50 : decode bb_Model_corners 50 = .ok (.aload_n 0, 1) := by decide +kernel
theorem dd_Model_corners_51 : decode bb_Model_corners 51 = .ok (.getfield 111, 3) := by decide +kernel
theorem dd_Model_corners_54 : decode bb_Model_corners 54 = .ok (.if_icmp .ge 16, 3) := by decide +kernel
theorem dd_Model_corners_57 : decode bb_Model_corners 57 = .ok (.aload_n 0, 1) := by decide +kernel
theorem dd_Model_corners_58 : decode bb_Model_corners 58 = .ok (.getfield 49, 3) := by decide +kernel
theorem dd_Model_corners_61 : decode bb_Model_corners 61 = .ok (.iload_n 2, 1) := by decide +kernel
theorem dd_Model_corners_62 : decode bb_Model_corners 62 = .ok (.iload_n 2, 1) := by decide +kernel
theorem dd_Model_corners_63 : decode bb_Model_corners 63 = .ok (.iastore, 1) := by decide +kernel
theorem dd_Model_corners_64 : decode bb_Model_corners 64 = .ok (.iinc 2 1, 3) := by decide +kernel
theorem dd_Model_corners_67 : decode bb_Model_corners 67 = .ok (.goto (-18), 3) := by decide +kernel
theorem dd_Model_corners_70 : decode bb_Model_corners 70 = .ok (.iconst 1, 1) := by decide +kernel
theorem dd_Model_corners_71 : decode bb_Model_corners 71 = .ok (.istore_n 2, 1) := by decide +kernel
theorem dd_Model_corners_72 : decode bb_Model_corners 72 = .ok (.iload_n 2, 1) := by decide +kernel
theorem dd_Model_corners_73 : decode bb_Model_corners 73 = .ok (.ifCond .eq 116, 3) := by decide +kernel
theorem dd_Model_corners_76 : decode bb_Model_corners 76 = .ok (.aload_n 0, 1) := by decide +kernel
theorem dd_Model_corners_77 : decode bb_Model_corners 77 = .ok (.aload_n 1, 1) := by decide +kernel
theorem dd_Model_corners_78 : decode bb_Model_corners 78 = .ok (.invokevirtual 134, 3) := by decide +kernel
theorem dd_Model_corners_81 : decode bb_Model_corners 81 = .ok (.aload_n 0, 1) := by decide +kernel
theorem dd_Model_corners_82 : decode bb_Model_corners 82 = .ok (.getfield 111, 3) := by decide +kernel
theorem dd_Model_corners_85 : decode bb_Model_corners 85 = .ok (.iconst 1, 1) := by decide +kernel
theorem dd_Model_corners_86 : decode bb_Model_corners 86 = .ok (.isub, 1) := by decide +kernel
theorem dd_Model_corners_87 : decode bb_Model_corners 87 = .ok (.istore_n 3, 1) := by decide +kernel
theorem dd_Model_corners_88 : decode bb_Model_corners 88 = .ok (.iload_n 3, 1) := by decide +kernel
theorem dd_Model_corners_89 : decode bb_Model_corners 89 = .ok (.ifCond .lt 29, 3) := by decide +kernel
theorem dd_Model_corners_92 : decode bb_Model_corners 92 = .ok (.aload_n 0, 1) := by decide +kernel
theorem dd_Model_corners_93 : decode bb_Model_corners 93 = .ok (.getfield 49, 3) := by decide +kernel
theorem dd_Model_corners_96 : decode bb_Model_corners 96 = .ok (.iload_n 3, 1) := by decide +kernel
theorem dd_Model_corners_97 : decode bb_Model_corners 97 = .ok (.iaload, 1) := by decide +kernel
theorem dd_Model_corners_98 : decode bb_Model_corners 98 = .ok (.aload_n 0, 1) := by decide +kernel
theorem dd_Model_corners_99 : decode bb_Model_corners 99 = .ok (.getfield 127, 3) := by decide +kernel
theorem dd_Model_corners_102 : decode bb_Model_corners 102 = .ok (.aload_n 0, 1) := by decide +kernel
theorem dd_Model_corners_103 : decode bb_Model_corners 103 = .ok (.getfield 111, 3) := by decide +kernel
theorem dd_Model_corners_106 : decode bb_Model_corners 106 = .ok (.isub, 1) := by decide +kernel
theorem dd_Model_corners_107 : decode bb_Model_corners 107 = .ok (.iload_n 3, 1) := by decide +kernel
theorem dd_Model_corners_108 : decode bb_Model_corners 108 = .ok (.iadd, 1) := by decide +kernel
theorem dd_Model_corners_109 : decode bb_Model_corners 109 = .ok (.if_icmp .ne 9, 3) := by decide +kernel
theorem dd_Model_corners_112 : decode bb_Model_corners 112 = .ok (.iinc 3 (-1), 3) := by decide +kernel
theorem dd_Model_corners_115 : decode bb_Model_corners 115 = .ok (.goto (-27), 3) := by decide +kernel
theorem dd_Model_corners_118 : decode bb_Model_corners 118 = .ok (.iload_n 3, 1) := by decide +kernel
theorem dd_Model_corners_119 : decode bb_Model_corners 119 = .ok (.ifCond .lt 7, 3) := by decide +kernel
theorem dd_Model_corners_122 : decode bb_Model_corners 122 = .ok (.iconst 1, 1) := by decide +kernel
theorem dd_Model_corners_123 : decode bb_Model_corners 123 = .ok (.goto 4, 3) := by decide +kernel
theorem dd_Model_corners_126 : decode bb_Model_corners 126 = .ok (.iconst 0, 1) := by decide +kernel
theorem dd_Model_corners_127 : decode bb_Model_corners 127 = .ok (.istore_n 2, 1) := by decide +kernel
theorem dd_Model_corners_128 : decode bb_Model_corners 128 = .ok (.iload_n 3, 1) := by decide +kernel
theorem dd_Model_corners_129 : decode bb_Model_corners 129 = .ok (.istore 4, 2) := by decide +kernel
theorem dd_Model_corners_131 : decode bb_Model_corners 131 = .ok (.iload 4, 2) := by decide +kernel
theorem dd_Model_corners_133 : decode bb_Model_corners 133 = .ok (.aload_n 0, 1) := by decide +kernel
theorem dd_Model_corners_134 : decode bb_Model_corners 134 = .ok (.getfield 111, 3) := by decide +kernel
theorem dd_Model_corners_137 : decode bb_Model_corners 137 = .ok (.if_icmp .ge 49, 3) := by decide +kernel
theorem dd_Model_corners_140 : decode bb_Model_corners 140 = .ok (.iload_n 2, 1) := by decide +kernel
theorem dd_Model_corners_141 : decode bb_Model_corners 141 = .ok (.ifCond .eq 45, 3) := by decide +kernel
theorem dd_Model_corners_144 : decode bb_Model_corners 144 = .ok (.aload_n 0, 1) := by decide +kernel
theorem dd_Model_corners_145 : decode bb_Model_corners 145 = .ok (.getfield 49, 3) := by decide +kernel
theorem dd_Model_corners_148 : decode bb_Model_corners 148 = .ok (.iload 4, 2) := by decide +kernel
