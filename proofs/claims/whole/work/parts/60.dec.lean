theorem kn_Integer_265 : Cond.constant "java/lang/Integer" 265 (1431655765) ∈ tb_all := tb_mem 280 (by decide +kernel) (by decide +kernel)
theorem kn_Integer_266 : Cond.constant "java/lang/Integer" 266 (858993459) ∈ tb_all := tb_mem 281 (by decide +kernel) (by decide +kernel)
theorem kn_Integer_267 : Cond.constant "java/lang/Integer" 267 (252645135) ∈ tb_all := tb_mem 282 (by decide +kernel) (by decide +kernel)
theorem kn_Integer_264 : Cond.constant "java/lang/Integer" 264 (65536) ∈ tb_all := tb_mem 290 (by decide +kernel) (by decide +kernel)
theorem dd_Integer_bitCount_0 : decode bb_Integer_bitCount 0 = .ok (.iload_n 0, 1) := by decide +kernel
theorem dd_Integer_bitCount_1 : decode bb_Integer_bitCount 1 = .ok (.iload_n 0, 1) := by decide +kernel
theorem dd_Integer_bitCount_2 : decode bb_Integer_bitCount 2 = .ok (.iconst 1, 1) := by decide +kernel
theorem dd_Integer_bitCount_3 : decode bb_Integer_bitCount 3 = .ok (.iushr, 1) := by decide +kernel
theorem dd_Integer_bitCount_4 : decode bb_Integer_bitCount 4 = .ok (.ldc_w 265, 3) := by decide +kernel
theorem dd_Integer_bitCount_7 : decode bb_Integer_bitCount 7 = .ok (.iand, 1) := by decide +kernel
theorem dd_Integer_bitCount_8 : decode bb_Integer_bitCount 8 = .ok (.isub, 1) := by decide +kernel
theorem dd_Integer_bitCount_9 : decode bb_Integer_bitCount 9 = .ok (.istore_n 0, 1) := by decide +kernel
theorem dd_Integer_bitCount_10 : decode bb_Integer_bitCount 10 = .ok (.iload_n 0, 1) := by decide +kernel
theorem dd_Integer_bitCount_11 : decode bb_Integer_bitCount 11 = .ok (.ldc_w 266, 3) := by decide +kernel
theorem dd_Integer_bitCount_14 : decode bb_Integer_bitCount 14 = .ok (.iand, 1) := by decide +kernel
theorem dd_Integer_bitCount_15 : decode bb_Integer_bitCount 15 = .ok (.iload_n 0, 1) := by decide +kernel
theorem dd_Integer_bitCount_16 : decode bb_Integer_bitCount 16 = .ok (.iconst 2, 1) := by decide +kernel
theorem dd_Integer_bitCount_17 : decode bb_Integer_bitCount 17 = .ok (.iushr, 1) := by decide +kernel
theorem dd_Integer_bitCount_18 : decode bb_Integer_bitCount 18 = .ok (.ldc_w 266, 3) := by decide +kernel
theorem dd_Integer_bitCount_21 : decode bb_Integer_bitCount 21 = .ok (.iand, 1) := by decide +kernel
theorem dd_Integer_bitCount_22 : decode bb_Integer_bitCount 22 = .ok (.iadd, 1) := by decide +kernel
theorem dd_Integer_bitCount_23 : decode bb_Integer_bitCount 23 = .ok (.istore_n 0, 1) := by decide +kernel
theorem dd_Integer_bitCount_24 : decode bb_Integer_bitCount 24 = .ok (.iload_n 0, 1) := by decide +kernel
theorem dd_Integer_bitCount_25 : decode bb_Integer_bitCount 25 = .ok (.iload_n 0, 1) := by decide +kernel
theorem dd_Integer_bitCount_26 : decode bb_Integer_bitCount 26 = .ok (.iconst 4, 1) := by decide +kernel
theorem dd_Integer_bitCount_27 : decode bb_Integer_bitCount 27 = .ok (.iushr, 1) := by decide +kernel
theorem dd_Integer_bitCount_28 : decode bb_Integer_bitCount 28 = .ok (.iadd, 1) := by decide +kernel
theorem dd_Integer_bitCount_29 : decode bb_Integer_bitCount 29 = .ok (.ldc_w 267, 3) := by decide +kernel
theorem dd_Integer_bitCount_32 : decode bb_Integer_bitCount 32 = .ok (.iand, 1) := by decide +kernel
theorem dd_Integer_bitCount_33 : decode bb_Integer_bitCount 33 = .ok (.istore_n 0, 1) := by decide +kernel
theorem dd_Integer_bitCount_34 : decode bb_Integer_bitCount 34 = .ok (.iload_n 0, 1) := by decide +kernel
theorem dd_Integer_bitCount_35 : decode bb_Integer_bitCount 35 = .ok (.iload_n 0, 1) := by decide +kernel
theorem dd_Integer_bitCount_36 : decode bb_Integer_bitCount 36 = .ok (.bipush 8, 2) := by decide +kernel
theorem dd_Integer_bitCount_38 : decode bb_Integer_bitCount 38 = .ok (.iushr, 1) := by decide +kernel
theorem dd_Integer_bitCount_39 : decode bb_Integer_bitCount 39 = .ok (.iadd, 1) := by decide +kernel
theorem dd_Integer_bitCount_40 : decode bb_Integer_bitCount 40 = .ok (.istore_n 0, 1) := by decide +kernel
theorem dd_Integer_bitCount_41 : decode bb_Integer_bitCount 41 = .ok (.iload_n 0, 1) := by decide +kernel
theorem dd_Integer_bitCount_42 : decode bb_Integer_bitCount 42 = .ok (.iload_n 0, 1) := by decide +kernel
theorem dd_Integer_bitCount_43 : decode bb_Integer_bitCount 43 = .ok (.bipush 16, 2) := by decide +kernel
theorem dd_Integer_bitCount_45 : decode bb_Integer_bitCount 45 = .ok (.iushr, 1) := by decide +kernel
theorem dd_Integer_bitCount_46 : decode bb_Integer_bitCount 46 = .ok (.iadd, 1) := by decide +kernel
theorem dd_Integer_bitCount_47 : decode bb_Integer_bitCount 47 = .ok (.istore_n 0, 1) := by decide +kernel
theorem dd_Integer_bitCount_48 : decode bb_Integer_bitCount 48 = .ok (.iload_n 0, 1) := by decide +kernel
theorem dd_Integer_bitCount_49 : decode bb_Integer_bitCount 49 = .ok (.bipush 63, 2) := by decide +kernel
theorem dd_Integer_bitCount_51 : decode bb_Integer_bitCount 51 = .ok (.iand, 1) := by decide +kernel
theorem dd_Integer_bitCount_52 : decode bb_Integer_bitCount 52 = .ok (.ireturn, 1) := by decide +kernel
theorem dd_Integer_numberOfTrailingZeros_0 : decode bb_Integer_numberOfTrailingZeros 0 = .ok (.iload_n 0, 1) := by decide +kernel
theorem dd_Integer_numberOfTrailingZeros_1 : decode bb_Integer_numberOfTrailingZeros 1 = .ok (.iconst (-1), 1) := by decide +kernel
theorem dd_Integer_numberOfTrailingZeros_2 : decode bb_Integer_numberOfTrailingZeros 2 = .ok (.ixor, 1) := by decide +kernel
theorem dd_Integer_numberOfTrailingZeros_3 : decode bb_Integer_numberOfTrailingZeros 3 = .ok (.iload_n 0, 1) := by decide +kernel
theorem dd_Integer_numberOfTrailingZeros_4 : decode bb_Integer_numberOfTrailingZeros 4 = .ok (.iconst 1, 1) := by decide +kernel
theorem dd_Integer_numberOfTrailingZeros_5 : decode bb_Integer_numberOfTrailingZeros 5 = .ok (.isub, 1) := by decide +kernel
theorem dd_Integer_numberOfTrailingZeros_6 : decode bb_Integer_numberOfTrailingZeros 6 = .ok (.iand, 1) := by decide +kernel
theorem dd_Integer_numberOfTrailingZeros_7 : decode bb_Integer_numberOfTrailingZeros 7 = .ok (.istore_n 0, 1) := by decide +kernel
theorem dd_Integer_numberOfTrailingZeros_8 : decode bb_Integer_numberOfTrailingZeros 8 = .ok (.iload_n 0, 1) := by decide +kernel
theorem dd_Integer_numberOfTrailingZeros_9 : decode bb_Integer_numberOfTrailingZeros 9 = .ok (.ifCond .gt 8, 3) := by decide +kernel
theorem dd_Integer_numberOfTrailingZeros_12 : decode bb_Integer_numberOfTrailingZeros 12 = .ok (.iload_n 0, 1) := by decide +kernel
theorem dd_Integer_numberOfTrailingZeros_13 : decode bb_Integer_numberOfTrailingZeros 13 = .ok (.bipush 32, 2) := by decide +kernel
theorem dd_Integer_numberOfTrailingZeros_15 : decode bb_Integer_numberOfTrailingZeros 15 = .ok (.iand, 1) := by decide +kernel
theorem dd_Integer_numberOfTrailingZeros_16 : decode bb_Integer_numberOfTrailingZeros 16 = .ok (.ireturn, 1) := by decide +kernel
theorem dd_Integer_numberOfTrailingZeros_17 : decode bb_Integer_numberOfTrailingZeros 17 = .ok (.iconst 1, 1) := by decide +kernel
theorem dd_Integer_numberOfTrailingZeros_18 : decode bb_Integer_numberOfTrailingZeros 18 = .ok (.istore_n 1, 1) := by decide +kernel
theorem dd_Integer_numberOfTrailingZeros_19 : decode bb_Integer_numberOfTrailingZeros 19 = .ok (.iload_n 0, 1) := by decide +kernel
theorem dd_Integer_numberOfTrailingZeros_20 : decode bb_Integer_numberOfTrailingZeros 20 = .ok (.ldc_w 264, 3) := by decide +kernel
theorem dd_Integer_numberOfTrailingZeros_23 : decode bb_Integer_numberOfTrailingZeros 23 = .ok (.if_icmp .le 11, 3) := by decide +kernel
theorem dd_Integer_numberOfTrailingZeros_26 : decode bb_Integer_numberOfTrailingZeros 26 = .ok (.iinc 1 16, 3) := by decide +kernel
theorem dd_Integer_numberOfTrailingZeros_29 : decode bb_Integer_numberOfTrailingZeros 29 = .ok (.iload_n 0, 1) := by decide +kernel
theorem dd_Integer_numberOfTrailingZeros_30 : decode bb_Integer_numberOfTrailingZeros 30 = .ok (.bipush 16, 2) := by decide +kernel
theorem dd_Integer_numberOfTrailingZeros_32 : decode bb_Integer_numberOfTrailingZeros 32 = .ok (.iushr, 1) := by decide +kernel
theorem dd_Integer_numberOfTrailingZeros_33 : decode bb_Integer_numberOfTrailingZeros 33 = .ok (.istore_n 0, 1) := by decide +kernel
theorem dd_Integer_numberOfTrailingZeros_34 : decode bb_Integer_numberOfTrailingZeros 34 = .ok (.iload_n 0, 1) := by decide +kernel
theorem dd_Integer_numberOfTrailingZeros_35 : decode bb_Integer_numberOfTrailingZeros 35 = .ok (.sipush 256, 3) := by decide +kernel
theorem dd_Integer_numberOfTrailingZeros_38 : decode bb_Integer_numberOfTrailingZeros 38 = .ok (.if_icmp .le 11, 3) := by decide +kernel
theorem dd_Integer_numberOfTrailingZeros_41 : decode bb_Integer_numberOfTrailingZeros 41 = .ok (.iinc 1 8, 3) := by decide +kernel
theorem dd_Integer_numberOfTrailingZeros_44 : decode bb_Integer_numberOfTrailingZeros 44 = .ok (.iload_n 0, 1) := by decide +kernel
theorem dd_Integer_numberOfTrailingZeros_45 : decode bb_Integer_numberOfTrailingZeros 45 = .ok (.bipush 8, 2) := by decide +kernel
theorem dd_Integer_numberOfTrailingZeros_47 : decode bb_Integer_numberOfTrailingZeros 47 = .ok (.iushr, 1) := by decide +kernel
theorem dd_Integer_numberOfTrailingZeros_48 : decode bb_Integer_numberOfTrailingZeros 48 = .ok (.istore_n 0, 1) := by decide +kernel
theorem dd_Integer_numberOfTrailingZeros_49 : decode bb_Integer_numberOfTrailingZeros 49 = .ok (.iload_n 0, 1) := by decide +kernel
theorem dd_Integer_numberOfTrailingZeros_50 : decode bb_Integer_numberOfTrailingZeros 50 = .ok (.bipush 16, 2) := by decide +kernel
theorem dd_Integer_numberOfTrailingZeros_52 : decode bb_Integer_numberOfTrailingZeros 52 = .ok (.if_icmp .le 10, 3) := by decide +kernel
theorem dd_Integer_numberOfTrailingZeros_55 : decode bb_Integer_numberOfTrailingZeros 55 = .ok (.iinc 1 4, 3) := by decide +kernel
theorem dd_Integer_numberOfTrailingZeros_58 : decode bb_Integer_numberOfTrailingZeros 58 = .ok (.iload_n 0, 1) := by decide +kernel
theorem dd_Integer_numberOfTrailingZeros_59 : decode bb_Integer_numberOfTrailingZeros 59 = .ok (.iconst 4, 1) := by decide +kernel
theorem dd_Integer_numberOfTrailingZeros_60 : decode bb_Integer_numberOfTrailingZeros 60 = .ok (.iushr, 1) := by decide +kernel
theorem dd_Integer_numberOfTrailingZeros_61 : decode bb_Integer_numberOfTrailingZeros 61 = .ok (.istore_n 0, 1) := by decide +kernel
theorem dd_Integer_numberOfTrailingZeros_62 : decode bb_Integer_numberOfTrailingZeros 62 = .ok (.iload_n 0, 1) := by decide +kernel
theorem dd_Integer_numberOfTrailingZeros_63 : decode bb_Integer_numberOfTrailingZeros 63 = .ok (.iconst 4, 1) := by decide +kernel
theorem dd_Integer_numberOfTrailingZeros_64 : decode bb_Integer_numberOfTrailingZeros 64 = .ok (.if_icmp .le 10, 3) := by decide +kernel
theorem dd_Integer_numberOfTrailingZeros_67 : decode bb_Integer_numberOfTrailingZeros 67 = .ok (.iinc 1 2, 3) := by decide +kernel
theorem dd_Integer_numberOfTrailingZeros_70 : decode bb_Integer_numberOfTrailingZeros 70 = .ok (.iload_n 0, 1) := by decide +kernel
theorem dd_Integer_numberOfTrailingZeros_71 : decode bb_Integer_numberOfTrailingZeros 71 = .ok (.iconst 2, 1) := by decide +kernel
theorem dd_Integer_numberOfTrailingZeros_72 : decode bb_Integer_numberOfTrailingZeros 72 = .ok (.iushr, 1) := by decide +kernel
theorem dd_Integer_numberOfTrailingZeros_73 : decode bb_Integer_numberOfTrailingZeros 73 = .ok (.istore_n 0, 1) := by decide +kernel
theorem dd_Integer_numberOfTrailingZeros_74 : decode bb_Integer_numberOfTrailingZeros 74 = .ok (.iload_n 1, 1) := by decide +kernel
theorem dd_Integer_numberOfTrailingZeros_75 : decode bb_Integer_numberOfTrailingZeros 75 = .ok (.iload_n 0, 1) := by decide +kernel
theorem dd_Integer_numberOfTrailingZeros_76 : decode bb_Integer_numberOfTrailingZeros 76 = .ok (.iconst 1, 1) := by decide +kernel
theorem dd_Integer_numberOfTrailingZeros_77 : decode bb_Integer_numberOfTrailingZeros 77 = .ok (.iushr, 1) := by decide +kernel
theorem dd_Integer_numberOfTrailingZeros_78 : decode bb_Integer_numberOfTrailingZeros 78 = .ok (.iadd, 1) := by decide +kernel
theorem dd_Integer_numberOfTrailingZeros_79 : decode bb_Integer_numberOfTrailingZeros 79 = .ok (.ireturn, 1) := by decide +kernel
theorem dd_Math_floorDiv_0 : decode bb_Math_floorDiv 0 = .ok (.iload_n 0, 1) := by decide +kernel
theorem dd_Math_floorDiv_1 : decode bb_Math_floorDiv 1 = .ok (.iload_n 1, 1) := by decide +kernel
theorem dd_Math_floorDiv_2 : decode bb_Math_floorDiv 2 = .ok (.idiv, 1) := by decide +kernel
theorem dd_Math_floorDiv_3 : decode bb_Math_floorDiv 3 = .ok (.istore_n 2, 1) := by decide +kernel
theorem dd_Math_floorDiv_4 : decode bb_Math_floorDiv 4 = .ok (.iload_n 0, 1) := by decide +kernel
theorem dd_Math_floorDiv_5 : decode bb_Math_floorDiv 5 = .ok (.iload_n 1, 1) := by decide +kernel
theorem dd_Math_floorDiv_6 : decode bb_Math_floorDiv 6 = .ok (.ixor, 1) := by decide +kernel
theorem dd_Math_floorDiv_7 : decode bb_Math_floorDiv 7 = .ok (.ifCond .ge 14, 3) := by decide +kernel
theorem dd_Math_floorDiv_10 : decode bb_Math_floorDiv 10 = .ok (.iload_n 2, 1) := by decide +kernel
theorem dd_Math_floorDiv_11 : decode bb_Math_floorDiv 11 = .ok (.iload_n 1, 1) := by decide +kernel
theorem dd_Math_floorDiv_12 : decode bb_Math_floorDiv 12 = .ok (.imul, 1) := by decide +kernel
theorem dd_Math_floorDiv_13 : decode bb_Math_floorDiv 13 = .ok (.iload_n 0, 1) := by decide +kernel
theorem dd_Math_floorDiv_14 : decode bb_Math_floorDiv 14 = .ok (.if_icmp .eq 7, 3) := by decide +kernel
theorem dd_Math_floorDiv_17 : decode bb_Math_floorDiv 17 = .ok (.iload_n 2, 1) := by decide +kernel
theorem dd_Math_floorDiv_18 : decode bb_Math_floorDiv 18 = .ok (.iconst 1, 1) := by decide +kernel
theorem dd_Math_floorDiv_19 : decode bb_Math_floorDiv 19 = .ok (.isub, 1) := by decide +kernel
theorem dd_Math_floorDiv_20 : decode bb_Math_floorDiv 20 = .ok (.ireturn, 1) := by decide +kernel
theorem dd_Math_floorDiv_21 : decode bb_Math_floorDiv 21 = .ok (.iload_n 2, 1) := by decide +kernel
theorem dd_Math_floorDiv_22 : decode bb_Math_floorDiv 22 = .ok (.ireturn, 1) := by decide +kernel
theorem dd_Math_max_0 : decode bb_Math_max 0 = .ok (.iload_n 0, 1) := by decide +kernel
theorem dd_Math_max_1 : decode bb_Math_max 1 = .ok (.iload_n 1, 1) := by decide +kernel
theorem dd_Math_max_2 : decode bb_Math_max 2 = .ok (.if_icmp .lt 7, 3) := by decide +kernel
theorem dd_Math_max_5 : decode bb_Math_max 5 = .ok (.iload_n 0, 1) := by decide +kernel
theorem dd_Math_max_6 : decode bb_Math_max 6 = .ok (.goto 4, 3) := by decide +kernel
theorem dd_Math_max_9 : decode bb_Math_max 9 = .ok (.iload_n 1, 1) := by decide +kernel
theorem dd_Math_max_10 : decode bb_Math_max 10 = .ok (.ireturn, 1) := by decide +kernel
theorem dd_Math_min_0 : decode bb_Math_min 0 = .ok (.iload_n 0, 1) := by decide +kernel
theorem dd_Math_min_1 : decode bb_Math_min 1 = .ok (.iload_n 1, 1) := by decide +kernel
theorem dd_Math_min_2 : decode bb_Math_min 2 = .ok (.if_icmp .gt 7, 3) := by decide +kernel
theorem dd_Math_min_5 : decode bb_Math_min 5 = .ok (.iload_n 0, 1) := by decide +kernel
theorem dd_Math_min_6 : decode bb_Math_min 6 = .ok (.goto 4, 3) := by decide +kernel
theorem dd_Math_min_9 : decode bb_Math_min 9 = .ok (.iload_n 1, 1) := by decide +kernel
theorem dd_Math_min_10 : decode bb_Math_min 10 = .ok (.ireturn, 1) := by decide +kernel
theorem dd_Minors_init_0 : decode bb_Minors_init 0 = .ok (.aload_n 0, 1) := by decide +kernel
theorem dd_Minors_init_1 : decode bb_Minors_init 1 = .ok (.invokespecial 3, 3) := by decide +kernel
theorem dd_Minors_init_4 : decode bb_Minors_init 4 = .ok (.aload_n 0, 1) := by decide +kernel
theorem dd_Minors_init_5 : decode bb_Minors_init 5 = .ok (.sipush 2048, 3) := by decide +kernel
theorem dd_Minors_init_8 : decode bb_Minors_init 8 = .ok (.newarray .int, 2) := by decide +kernel
theorem dd_Minors_init_10 : decode bb_Minors_init 10 = .ok (.putfield 11, 3) := by decide +kernel
theorem dd_Minors_init_13 : decode bb_Minors_init 13 = .ok (.return_, 1) := by decide +kernel
theorem dd_Minors_fill_0 : decode bb_Minors_fill 0 = .ok (.aload_n 1, 1) := by decide +kernel
theorem dd_Minors_fill_1 : decode bb_Minors_fill 1 = .ok (.invokestatic 15, 3) := by decide +kernel
theorem dd_Minors_fill_4 : decode bb_Minors_fill 4 = .ok (.istore_n 2, 1) := by decide +kernel
theorem dd_Minors_fill_5 : decode bb_Minors_fill 5 = .ok (.aload_n 0, 1) := by decide +kernel
theorem dd_Minors_fill_6 : decode bb_Minors_fill 6 = .ok (.getfield 11, 3) := by decide +kernel
theorem dd_Minors_fill_9 : decode bb_Minors_fill 9 = .ok (.iconst 0, 1) := by decide +kernel
theorem dd_Minors_fill_10 : decode bb_Minors_fill 10 = .ok (.iconst 1, 1) := by decide +kernel
theorem dd_Minors_fill_11 : decode bb_Minors_fill 11 = .ok (.iastore, 1) := by decide +kernel
theorem dd_Minors_fill_12 : decode bb_Minors_fill 12 = .ok (.iconst 1, 1) := by decide +kernel
theorem dd_Minors_fill_13 : decode bb_Minors_fill 13 = .ok (.istore_n 3, 1) := by decide +kernel
theorem dd_Minors_fill_14 : decode bb_Minors_fill 14 = .ok (.iload_n 3, 1) := by decide +kernel
theorem dd_Minors_fill_15 : decode bb_Minors_fill 15 = .ok (.iconst 1, 1) := by decide +kernel
theorem dd_Minors_fill_16 : decode bb_Minors_fill 16 = .ok (.aload_n 1, 1) := by decide +kernel
theorem dd_Minors_fill_17 : decode bb_Minors_fill 17 = .ok (.getfield 19, 3) := by decide +kernel
theorem dd_Minors_fill_20 : decode bb_Minors_fill 20 = .ok (.ishl, 1) := by decide +kernel
theorem dd_Minors_fill_21 : decode bb_Minors_fill 21 = .ok (.if_icmp .ge 71, 3) := by decide +kernel
theorem dd_Minors_fill_24 : decode bb_Minors_fill 24 = .ok (.iload_n 3, 1) := by decide +kernel
theorem dd_Minors_fill_25 : decode bb_Minors_fill 25 = .ok (.invokestatic 25, 3) := by decide +kernel
theorem dd_Minors_fill_28 : decode bb_Minors_fill 28 = .ok (.istore 4, 2) := by decide +kernel
theorem dd_Minors_fill_30 : decode bb_Minors_fill 30 = .ok (.iconst 1, 1) := by decide +kernel
theorem dd_Minors_fill_31 : decode bb_Minors_fill 31 = .ok (.istore 5, 2) := by decide +kernel
theorem dd_Minors_fill_33 : decode bb_Minors_fill 33 = .ok (.iload 5, 2) := by decide +kernel
theorem dd_Minors_fill_35 : decode bb_Minors_fill 35 = .ok (.sipush 128, 3) := by decide +kernel
theorem dd_Minors_fill_38 : decode bb_Minors_fill 38 = .ok (.if_icmp .ge 48, 3) := by decide +kernel
theorem dd_Minors_fill_41 : decode bb_Minors_fill 41 = .ok (.iload 5, 2) := by decide +kernel
theorem dd_Minors_fill_43 : decode bb_Minors_fill 43 = .ok (.iload_n 2, 1) := by decide +kernel
theorem dd_Minors_fill_44 : decode bb_Minors_fill 44 = .ok (.iconst (-1), 1) := by decide +kernel
theorem dd_Minors_fill_45 : decode bb_Minors_fill 45 = .ok (.ixor, 1) := by decide +kernel
theorem dd_Minors_fill_46 : decode bb_Minors_fill 46 = .ok (.iand, 1) := by decide +kernel
theorem dd_Minors_fill_47 : decode bb_Minors_fill 47 = .ok (.ifCond .ne 33, 3) := by decide +kernel
theorem dd_Minors_fill_50 : decode bb_Minors_fill 50 = .ok (.iload 5, 2) := by decide +kernel
theorem dd_Minors_fill_52 : decode bb_Minors_fill 52 = .ok (.invokestatic 25, 3) := by decide +kernel
theorem dd_Minors_fill_55 : decode bb_Minors_fill 55 = .ok (.iload 4, 2) := by decide +kernel
theorem dd_Minors_fill_57 : decode bb_Minors_fill 57 = .ok (.if_icmp .ne 23, 3) := by decide +kernel
theorem dd_Minors_fill_60 : decode bb_Minors_fill 60 = .ok (.aload_n 0, 1) := by decide +kernel
theorem dd_Minors_fill_61 : decode bb_Minors_fill 61 = .ok (.getfield 11, 3) := by decide +kernel
theorem dd_Minors_fill_64 : decode bb_Minors_fill 64 = .ok (.iload_n 3, 1) := by decide +kernel
theorem dd_Minors_fill_65 : decode bb_Minors_fill 65 = .ok (.bipush 7, 2) := by decide +kernel
theorem dd_Minors_fill_67 : decode bb_Minors_fill 67 = .ok (.ishl, 1) := by decide +kernel
theorem dd_Minors_fill_68 : decode bb_Minors_fill 68 = .ok (.iload 5, 2) := by decide +kernel
theorem dd_Minors_fill_70 : decode bb_Minors_fill 70 = .ok (.ior, 1) := by decide +kernel
theorem dd_Minors_fill_71 : decode bb_Minors_fill 71 = .ok (.aload_n 0, 1) := by decide +kernel
theorem dd_Minors_fill_72 : decode bb_Minors_fill 72 = .ok (.aload_n 1, 1) := by decide +kernel
theorem dd_Minors_fill_73 : decode bb_Minors_fill 73 = .ok (.iload_n 3, 1) := by decide +kernel
theorem dd_Minors_fill_74 : decode bb_Minors_fill 74 = .ok (.iload 5, 2) := by decide +kernel
theorem dd_Minors_fill_76 : decode bb_Minors_fill 76 = .ok (.invokevirtual 31, 3) := by decide +kernel
theorem dd_Minors_fill_79 : decode bb_Minors_fill 79 = .ok (.iastore, 1) := by decide +kernel
theorem dd_Minors_fill_80 : decode bb_Minors_fill 80 = .ok (.iinc 5 1, 3) := by decide +kernel
theorem dd_Minors_fill_83 : decode bb_Minors_fill 83 = .ok (.goto (-50), 3) := by decide +kernel
theorem dd_Minors_fill_86 : decode bb_Minors_fill 86 = .ok (.iinc 3 1, 3) := by decide +kernel
theorem dd_Minors_fill_89 : decode bb_Minors_fill 89 = .ok (.goto (-75), 3) := by decide +kernel
theorem dd_Minors_fill_92 : decode bb_Minors_fill 92 = .ok (.return_, 1) := by decide +kernel
theorem dd_Minors_columnsOf_0 : decode bb_Minors_columnsOf 0 = .ok (.bipush 64, 2) := by decide +kernel
theorem dd_Minors_columnsOf_2 : decode bb_Minors_columnsOf 2 = .ok (.iconst 1, 1) := by decide +kernel
theorem dd_Minors_columnsOf_3 : decode bb_Minors_columnsOf 3 = .ok (.aload_n 0, 1) := by decide +kernel
theorem dd_Minors_columnsOf_4 : decode bb_Minors_columnsOf 4 = .ok (.getfield 35, 3) := by decide +kernel
theorem dd_Minors_columnsOf_7 : decode bb_Minors_columnsOf 7 = .ok (.ishl, 1) := by decide +kernel
theorem dd_Minors_columnsOf_8 : decode bb_Minors_columnsOf 8 = .ok (.iconst 1, 1) := by decide +kernel
theorem dd_Minors_columnsOf_9 : decode bb_Minors_columnsOf 9 = .ok (.isub, 1) := by decide +kernel
theorem dd_Minors_columnsOf_10 : decode bb_Minors_columnsOf 10 = .ok (.ior, 1) := by decide +kernel
theorem dd_Minors_columnsOf_11 : decode bb_Minors_columnsOf 11 = .ok (.ireturn, 1) := by decide +kernel
theorem dd_Minors_of_0 : decode bb_Minors_of 0 = .ok (.aload_n 0, 1) := by decide +kernel
theorem dd_Minors_of_1 : decode bb_Minors_of 1 = .ok (.getfield 11, 3) := by decide +kernel
theorem dd_Minors_of_4 : decode bb_Minors_of 4 = .ok (.iload_n 1, 1) := by decide +kernel
theorem dd_Minors_of_5 : decode bb_Minors_of 5 = .ok (.bipush 7, 2) := by decide +kernel
theorem dd_Minors_of_7 : decode bb_Minors_of 7 = .ok (.ishl, 1) := by decide +kernel
theorem dd_Minors_of_8 : decode bb_Minors_of 8 = .ok (.iload_n 2, 1) := by decide +kernel
theorem dd_Minors_of_9 : decode bb_Minors_of 9 = .ok (.ior, 1) := by decide +kernel
theorem dd_Minors_of_10 : decode bb_Minors_of 10 = .ok (.iaload, 1) := by decide +kernel
theorem dd_Minors_of_11 : decode bb_Minors_of 11 = .ok (.ireturn, 1) := by decide +kernel
theorem dd_Minors_cofactor_0 : decode bb_Minors_cofactor 0 = .ok (.iload_n 1, 1) := by decide +kernel
theorem dd_Minors_cofactor_1 : decode bb_Minors_cofactor 1 = .ok (.iconst 1, 1) := by decide +kernel
theorem dd_Minors_cofactor_2 : decode bb_Minors_cofactor 2 = .ok (.iload_n 3, 1) := by decide +kernel
theorem dd_Minors_cofactor_3 : decode bb_Minors_cofactor 3 = .ok (.ishl, 1) := by decide +kernel
theorem dd_Minors_cofactor_4 : decode bb_Minors_cofactor 4 = .ok (.iconst 1, 1) := by decide +kernel
theorem dd_Minors_cofactor_5 : decode bb_Minors_cofactor 5 = .ok (.isub, 1) := by decide +kernel
theorem dd_Minors_cofactor_6 : decode bb_Minors_cofactor 6 = .ok (.iand, 1) := by decide +kernel
theorem dd_Minors_cofactor_7 : decode bb_Minors_cofactor 7 = .ok (.invokestatic 25, 3) := by decide +kernel
theorem dd_Minors_cofactor_10 : decode bb_Minors_cofactor 10 = .ok (.iload_n 2, 1) := by decide +kernel
theorem dd_Minors_cofactor_11 : decode bb_Minors_cofactor 11 = .ok (.iconst 1, 1) := by decide +kernel
theorem dd_Minors_cofactor_12 : decode bb_Minors_cofactor 12 = .ok (.iload 4, 2) := by decide +kernel
theorem dd_Minors_cofactor_14 : decode bb_Minors_cofactor 14 = .ok (.ishl, 1) := by decide +kernel
theorem dd_Minors_cofactor_15 : decode bb_Minors_cofactor 15 = .ok (.iconst 1, 1) := by decide +kernel
theorem dd_Minors_cofactor_16 : decode bb_Minors_cofactor 16 = .ok (.isub, 1) := by decide +kernel
theorem dd_Minors_cofactor_17 : decode bb_Minors_cofactor 17 = .ok (.iand, 1) := by decide +kernel
theorem dd_Minors_cofactor_18 : decode bb_Minors_cofactor 18 = .ok (.invokestatic 25, 3) := by decide +kernel
theorem dd_Minors_cofactor_21 : decode bb_Minors_cofactor 21 = .ok (.iadd, 1) := by decide +kernel
theorem dd_Minors_cofactor_22 : decode bb_Minors_cofactor 22 = .ok (.istore 5, 2) := by decide +kernel
theorem dd_Minors_cofactor_24 : decode bb_Minors_cofactor 24 = .ok (.aload_n 0, 1) := by decide +kernel
theorem dd_Minors_cofactor_25 : decode bb_Minors_cofactor 25 = .ok (.iload_n 1, 1) := by decide +kernel
theorem dd_Minors_cofactor_26 : decode bb_Minors_cofactor 26 = .ok (.iconst 1, 1) := by decide +kernel
theorem dd_Minors_cofactor_27 : decode bb_Minors_cofactor 27 = .ok (.iload_n 3, 1) := by decide +kernel
theorem dd_Minors_cofactor_28 : decode bb_Minors_cofactor 28 = .ok (.ishl, 1) := by decide +kernel
theorem dd_Minors_cofactor_29 : decode bb_Minors_cofactor 29 = .ok (.ixor, 1) := by decide +kernel
theorem dd_Minors_cofactor_30 : decode bb_Minors_cofactor 30 = .ok (.iload_n 2, 1) := by decide +kernel
theorem dd_Minors_cofactor_31 : decode bb_Minors_cofactor 31 = .ok (.iconst 1, 1) := by decide +kernel
theorem dd_Minors_cofactor_32 : decode bb_Minors_cofactor 32 = .ok (.iload 4, 2) := by decide +kernel
theorem dd_Minors_cofactor_34 : decode bb_Minors_cofactor 34 = .ok (.ishl, 1) := by decide +kernel
theorem dd_Minors_cofactor_35 : decode bb_Minors_cofactor 35 = .ok (.ixor, 1) := by decide +kernel
theorem dd_Minors_cofactor_36 : decode bb_Minors_cofactor 36 = .ok (.invokevirtual 38, 3) := by decide +kernel
theorem dd_Minors_cofactor_39 : decode bb_Minors_cofactor 39 = .ok (.istore 6, 2) := by decide +kernel
theorem dd_Minors_cofactor_41 : decode bb_Minors_cofactor 41 = .ok (.iload 5, 2) := by decide +kernel
theorem dd_Minors_cofactor_43 : decode bb_Minors_cofactor 43 = .ok (.iconst 1, 1) := by decide +kernel
theorem dd_Minors_cofactor_44 : decode bb_Minors_cofactor 44 = .ok (.iand, 1) := by decide +kernel
theorem dd_Minors_cofactor_45 : decode bb_Minors_cofactor 45 = .ok (.ifCond .ne 8, 3) := by decide +kernel
theorem dd_Minors_cofactor_48 : decode bb_Minors_cofactor 48 = .ok (.iload 6, 2) := by decide +kernel
theorem dd_Minors_cofactor_50 : decode bb_Minors_cofactor 50 = .ok (.goto 6, 3) := by decide +kernel
theorem dd_Minors_cofactor_53 : decode bb_Minors_cofactor 53 = .ok (.iload 6, 2) := by decide +kernel
theorem dd_Minors_cofactor_55 : decode bb_Minors_cofactor 55 = .ok (.ineg, 1) := by decide +kernel
theorem dd_Minors_cofactor_56 : decode bb_Minors_cofactor 56 = .ok (.ireturn, 1) := by decide +kernel
theorem dd_Minors_expand_0 : decode bb_Minors_expand 0 = .ok (.iload_n 2, 1) := by decide +kernel
theorem dd_Minors_expand_1 : decode bb_Minors_expand 1 = .ok (.invokestatic 42, 3) := by decide +kernel
theorem dd_Minors_expand_4 : decode bb_Minors_expand 4 = .ok (.istore 4, 2) := by decide +kernel
theorem dd_Minors_expand_6 : decode bb_Minors_expand 6 = .ok (.iconst 0, 1) := by decide +kernel
theorem dd_Minors_expand_7 : decode bb_Minors_expand 7 = .ok (.istore 5, 2) := by decide +kernel
theorem dd_Minors_expand_9 : decode bb_Minors_expand 9 = .ok (.iconst 0, 1) := by decide +kernel
theorem dd_Minors_expand_10 : decode bb_Minors_expand 10 = .ok (.istore 6, 2) := by decide +kernel
theorem dd_Minors_expand_12 : decode bb_Minors_expand 12 = .ok (.iload 6, 2) := by decide +kernel
theorem dd_Minors_expand_14 : decode bb_Minors_expand 14 = .ok (.bipush 7, 2) := by decide +kernel
theorem dd_Minors_expand_16 : decode bb_Minors_expand 16 = .ok (.if_icmp .ge 65, 3) := by decide +kernel
theorem dd_Minors_expand_19 : decode bb_Minors_expand 19 = .ok (.iload_n 3, 1) := by decide +kernel
theorem dd_Minors_expand_20 : decode bb_Minors_expand 20 = .ok (.iload 6, 2) := by decide +kernel
theorem dd_Minors_expand_22 : decode bb_Minors_expand 22 = .ok (.ishr, 1) := by decide +kernel
theorem dd_Minors_expand_23 : decode bb_Minors_expand 23 = .ok (.iconst 1, 1) := by decide +kernel
theorem dd_Minors_expand_24 : decode bb_Minors_expand 24 = .ok (.iand, 1) := by decide +kernel
theorem dd_Minors_expand_25 : decode bb_Minors_expand 25 = .ok (.ifCond .eq 50, 3) := by decide +kernel
theorem dd_Minors_expand_28 : decode bb_Minors_expand 28 = .ok (.iload 6, 2) := by decide +kernel
theorem dd_Minors_expand_30 : decode bb_Minors_expand 30 = .ok (.bipush 6, 2) := by decide +kernel
theorem dd_Minors_expand_32 : decode bb_Minors_expand 32 = .ok (.if_icmp .ne 13, 3) := by decide +kernel
theorem dd_Minors_expand_35 : decode bb_Minors_expand 35 = .ok (.aload_n 1, 1) := by decide +kernel
theorem dd_Minors_expand_36 : decode bb_Minors_expand 36 = .ok (.getfield 45, 3) := by decide +kernel
theorem dd_Minors_expand_39 : decode bb_Minors_expand 39 = .ok (.iload 4, 2) := by decide +kernel
theorem dd_Minors_expand_41 : decode bb_Minors_expand 41 = .ok (.iaload, 1) := by decide +kernel
theorem dd_Minors_expand_42 : decode bb_Minors_expand 42 = .ok (.goto 13, 3) := by decide +kernel
theorem dd_Minors_expand_45 : decode bb_Minors_expand 45 = .ok (.aload_n 1, 1) := by decide +kernel
theorem dd_Minors_expand_46 : decode bb_Minors_expand 46 = .ok (.getfield 48, 3) := by decide +kernel
theorem dd_Minors_expand_49 : decode bb_Minors_expand 49 = .ok (.iload 6, 2) := by decide +kernel
theorem dd_Minors_expand_51 : decode bb_Minors_expand 51 = .ok (.aaload, 1) := by decide +kernel
theorem dd_Minors_expand_52 : decode bb_Minors_expand 52 = .ok (.iload 4, 2) := by decide +kernel
theorem dd_Minors_expand_54 : decode bb_Minors_expand 54 = .ok (.iaload, 1) := by decide +kernel
theorem dd_Minors_expand_55 : decode bb_Minors_expand 55 = .ok (.istore 7, 2) := by decide +kernel
theorem dd_Minors_expand_57 : decode bb_Minors_expand 57 = .ok (.iload 5, 2) := by decide +kernel
theorem dd_Minors_expand_59 : decode bb_Minors_expand 59 = .ok (.iload 7, 2) := by decide +kernel
theorem dd_Minors_expand_61 : decode bb_Minors_expand 61 = .ok (.aload_n 0, 1) := by decide +kernel
theorem dd_Minors_expand_62 : decode bb_Minors_expand 62 = .ok (.iload_n 2, 1) := by decide +kernel
theorem dd_Minors_expand_63 : decode bb_Minors_expand 63 = .ok (.iload_n 3, 1) := by decide +kernel
theorem dd_Minors_expand_64 : decode bb_Minors_expand 64 = .ok (.iload 4, 2) := by decide +kernel
theorem dd_Minors_expand_66 : decode bb_Minors_expand 66 = .ok (.iload 6, 2) := by decide +kernel
theorem dd_Minors_expand_68 : decode bb_Minors_expand 68 = .ok (.invokevirtual 52, 3) := by decide +kernel
theorem dd_Minors_expand_71 : decode bb_Minors_expand 71 = .ok (.imul, 1) := by decide +kernel
theorem dd_Minors_expand_72 : decode bb_Minors_expand 72 = .ok (.iadd, 1) := by decide +kernel
theorem dd_Minors_expand_73 : decode bb_Minors_expand 73 = .ok (.istore 5, 2) := by decide +kernel
theorem dd_Minors_expand_75 : decode bb_Minors_expand 75 = .ok (.iinc 6 1, 3) := by decide +kernel
theorem dd_Minors_expand_78 : decode bb_Minors_expand 78 = .ok (.goto (-66), 3) := by decide +kernel
theorem dd_Minors_expand_81 : decode bb_Minors_expand 81 = .ok (.iload 5, 2) := by decide +kernel
theorem dd_Minors_expand_83 : decode bb_Minors_expand 83 = .ok (.ireturn, 1) := by decide +kernel
