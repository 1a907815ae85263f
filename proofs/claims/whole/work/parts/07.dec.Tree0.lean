theorem dd_Tree_init_0 : decode bb_Tree_init 0 = .ok (.aload_n 0, 1) := by decide +kernel
theorem dd_Tree_init_1 : decode bb_Tree_init 1 = .ok (.invokespecial 3, 3) := by decide +kernel
theorem dd_Tree_init_4 : decode bb_Tree_init 4 = .ok (.aload_n 0, 1) := by decide +kernel
theorem dd_Tree_init_5 : decode bb_Tree_init 5 = .ok (.bipush 40, 2) := by decide +kernel
theorem dd_Tree_init_7 : decode bb_Tree_init 7 = .ok (.newarray .int, 2) := by decide +kernel
theorem dd_Tree_init_9 : decode bb_Tree_init 9 = .ok (.putfield 9, 3) := by decide +kernel
theorem dd_Tree_init_12 : decode bb_Tree_init 12 = .ok (.aload_n 0, 1) := by decide +kernel
theorem dd_Tree_init_13 : decode bb_Tree_init 13 = .ok (.bipush 40, 2) := by decide +kernel
theorem dd_Tree_init_15 : decode bb_Tree_init 15 = .ok (.newarray .int, 2) := by decide +kernel
theorem dd_Tree_init_17 : decode bb_Tree_init 17 = .ok (.putfield 15, 3) := by decide +kernel
theorem dd_Tree_init_20 : decode bb_Tree_init 20 = .ok (.aload_n 0, 1) := by decide +kernel
theorem dd_Tree_init_21 : decode bb_Tree_init 21 = .ok (.bipush 40, 2) := by decide +kernel
theorem dd_Tree_init_23 : decode bb_Tree_init 23 = .ok (.newarray .int, 2) := by decide +kernel
theorem dd_Tree_init_25 : decode bb_Tree_init 25 = .ok (.putfield 18, 3) := by decide +kernel
theorem dd_Tree_init_28 : decode bb_Tree_init 28 = .ok (.aload_n 0, 1) := by decide +kernel
theorem dd_Tree_init_29 : decode bb_Tree_init 29 = .ok (.bipush 40, 2) := by decide +kernel
theorem dd_Tree_init_31 : decode bb_Tree_init 31 = .ok (.newarray .int, 2) := by decide +kernel
theorem dd_Tree_init_33 : decode bb_Tree_init 33 = .ok (.putfield 21, 3) := by decide +kernel
theorem dd_Tree_init_36 : decode bb_Tree_init 36 = .ok (.aload_n 0, 1) := by decide +kernel
theorem dd_Tree_init_37 : decode bb_Tree_init 37 = .ok (.bipush 40, 2) := by decide +kernel
theorem dd_Tree_init_39 : decode bb_Tree_init 39 = .ok (.newarray .int, 2) := by decide +kernel
theorem dd_Tree_init_41 : decode bb_Tree_init 41 = .ok (.putfield 24, 3) := by decide +kernel
theorem dd_Tree_init_44 : decode bb_Tree_init 44 = .ok (.aload_n 0, 1) := by decide +kernel
theorem dd_Tree_init_45 : decode bb_Tree_init 45 = .ok (.sipush 280, 3) := by decide +kernel
theorem dd_Tree_init_48 : decode bb_Tree_init 48 = .ok (.newarray .int, 2) := by decide +kernel
theorem dd_Tree_init_50 : decode bb_Tree_init 50 = .ok (.putfield 27, 3) := by decide +kernel
theorem dd_Tree_init_53 : decode bb_Tree_init 53 = .ok (.aload_n 0, 1) := by decide +kernel
theorem dd_Tree_init_54 : decode bb_Tree_init 54 = .ok (.bipush 6, 2) := by decide +kernel
theorem dd_Tree_init_56 : decode bb_Tree_init 56 = .ok (.newarray .long, 2) := by decide +kernel
theorem dd_Tree_init_58 : decode bb_Tree_init 58 = .ok (.putfield 32, 3) := by decide +kernel
theorem dd_Tree_init_61 : decode bb_Tree_init 61 = .ok (.return_, 1) := by decide +kernel
theorem dd_Tree_setNothing_0 : decode bb_Tree_setNothing 0 = .ok (.aload_n 0, 1) := by decide +kernel
theorem dd_Tree_setNothing_1 : decode bb_Tree_setNothing 1 = .ok (.getfield 9, 3) := by decide +kernel
theorem dd_Tree_setNothing_4 : decode bb_Tree_setNothing 4 = .ok (.iload_n 1, 1) := by decide +kernel
theorem dd_Tree_setNothing_5 : decode bb_Tree_setNothing 5 = .ok (.iconst 0, 1) := by decide +kernel
theorem dd_Tree_setNothing_6 : decode bb_Tree_setNothing 6 = .ok (.iastore, 1) := by decide +kernel
theorem dd_Tree_setNothing_7 : decode bb_Tree_setNothing 7 = .ok (.return_, 1) := by decide +kernel
theorem dd_Tree_setFork_0 : decode bb_Tree_setFork 0 = .ok (.aload_n 0, 1) := by decide +kernel
theorem dd_Tree_setFork_1 : decode bb_Tree_setFork 1 = .ok (.getfield 9, 3) := by decide +kernel
theorem dd_Tree_setFork_4 : decode bb_Tree_setFork 4 = .ok (.iload_n 1, 1) := by decide +kernel
theorem dd_Tree_setFork_5 : decode bb_Tree_setFork 5 = .ok (.iconst 1, 1) := by decide +kernel
theorem dd_Tree_setFork_6 : decode bb_Tree_setFork 6 = .ok (.iastore, 1) := by decide +kernel
theorem dd_Tree_setFork_7 : decode bb_Tree_setFork 7 = .ok (.aload_n 0, 1) := by decide +kernel
theorem dd_Tree_setFork_8 : decode bb_Tree_setFork 8 = .ok (.getfield 15, 3) := by decide +kernel
theorem dd_Tree_setFork_11 : decode bb_Tree_setFork 11 = .ok (.iload_n 1, 1) := by decide +kernel
theorem dd_Tree_setFork_12 : decode bb_Tree_setFork 12 = .ok (.iload_n 2, 1) := by decide +kernel
theorem dd_Tree_setFork_13 : decode bb_Tree_setFork 13 = .ok (.iastore, 1) := by decide +kernel
theorem dd_Tree_setFork_14 : decode bb_Tree_setFork 14 = .ok (.aload_n 0, 1) := by decide +kernel
theorem dd_Tree_setFork_15 : decode bb_Tree_setFork 15 = .ok (.getfield 18, 3) := by decide +kernel
theorem dd_Tree_setFork_18 : decode bb_Tree_setFork 18 = .ok (.iload_n 1, 1) := by decide +kernel
theorem dd_Tree_setFork_19 : decode bb_Tree_setFork 19 = .ok (.iload_n 3, 1) := by decide +kernel
theorem dd_Tree_setFork_20 : decode bb_Tree_setFork 20 = .ok (.iastore, 1) := by decide +kernel
theorem dd_Tree_setFork_21 : decode bb_Tree_setFork 21 = .ok (.aload_n 0, 1) := by decide +kernel
theorem dd_Tree_setFork_22 : decode bb_Tree_setFork 22 = .ok (.getfield 21, 3) := by decide +kernel
theorem dd_Tree_setFork_25 : decode bb_Tree_setFork 25 = .ok (.iload_n 1, 1) := by decide +kernel
theorem dd_Tree_setFork_26 : decode bb_Tree_setFork 26 = .ok (.iload 4, 2) := by decide +kernel
theorem dd_Tree_setFork_28 : decode bb_Tree_setFork 28 = .ok (.iastore, 1) := by decide +kernel
theorem dd_Tree_setFork_29 : decode bb_Tree_setFork 29 = .ok (.aload_n 0, 1) := by decide +kernel
theorem dd_Tree_setFork_30 : decode bb_Tree_setFork 30 = .ok (.getfield 24, 3) := by decide +kernel
theorem dd_Tree_setFork_33 : decode bb_Tree_setFork 33 = .ok (.iload_n 1, 1) := by decide +kernel
theorem dd_Tree_setFork_34 : decode bb_Tree_setFork 34 = .ok (.iload 5, 2) := by decide +kernel
theorem dd_Tree_setFork_36 : decode bb_Tree_setFork 36 = .ok (.iastore, 1) := by decide +kernel
theorem dd_Tree_setFork_37 : decode bb_Tree_setFork 37 = .ok (.return_, 1) := by decide +kernel
theorem dd_Tree_setEnd_0 : decode bb_Tree_setEnd 0 = .ok (.aload_n 0, 1) := by decide +kernel
theorem dd_Tree_setEnd_1 : decode bb_Tree_setEnd 1 = .ok (.getfield 9, 3) := by decide +kernel
theorem dd_Tree_setEnd_4 : decode bb_Tree_setEnd 4 = .ok (.iload_n 1, 1) := by decide +kernel
theorem dd_Tree_setEnd_5 : decode bb_Tree_setEnd 5 = .ok (.iconst 2, 1) := by decide +kernel
theorem dd_Tree_setEnd_6 : decode bb_Tree_setEnd 6 = .ok (.iastore, 1) := by decide +kernel
theorem dd_Tree_setEnd_7 : decode bb_Tree_setEnd 7 = .ok (.aload_n 0, 1) := by decide +kernel
theorem dd_Tree_setEnd_8 : decode bb_Tree_setEnd 8 = .ok (.getfield 27, 3) := by decide +kernel
theorem dd_Tree_setEnd_11 : decode bb_Tree_setEnd 11 = .ok (.iload_n 1, 1) := by decide +kernel
theorem dd_Tree_setEnd_12 : decode bb_Tree_setEnd 12 = .ok (.bipush 7, 2) := by decide +kernel
theorem dd_Tree_setEnd_14 : decode bb_Tree_setEnd 14 = .ok (.imul, 1) := by decide +kernel
theorem dd_Tree_setEnd_15 : decode bb_Tree_setEnd 15 = .ok (.iload_n 2, 1) := by decide +kernel
theorem dd_Tree_setEnd_16 : decode bb_Tree_setEnd 16 = .ok (.iastore, 1) := by decide +kernel
theorem dd_Tree_setEnd_17 : decode bb_Tree_setEnd 17 = .ok (.return_, 1) := by decide +kernel
theorem dd_Tree_setMultipliers_0 : decode bb_Tree_setMultipliers 0 = .ok (.iload_n 1, 1) := by decide +kernel
theorem dd_Tree_setMultipliers_1 : decode bb_Tree_setMultipliers 1 = .ok (.bipush 7, 2) := by decide +kernel
theorem dd_Tree_setMultipliers_3 : decode bb_Tree_setMultipliers 3 = .ok (.imul, 1) := by decide +kernel
theorem dd_Tree_setMultipliers_4 : decode bb_Tree_setMultipliers 4 = .ok (.iconst 1, 1) := by decide +kernel
theorem dd_Tree_setMultipliers_5 : decode bb_Tree_setMultipliers 5 = .ok (.iadd, 1) := by decide +kernel
theorem dd_Tree_setMultipliers_6 : decode bb_Tree_setMultipliers 6 = .ok (.iload_n 2, 1) := by decide +kernel
theorem dd_Tree_setMultipliers_7 : decode bb_Tree_setMultipliers 7 = .ok (.iadd, 1) := by decide +kernel
theorem dd_Tree_setMultipliers_8 : decode bb_Tree_setMultipliers 8 = .ok (.istore 6, 2) := by decide +kernel
theorem dd_Tree_setMultipliers_10 : decode bb_Tree_setMultipliers 10 = .ok (.aload_n 0, 1) := by decide +kernel
theorem dd_Tree_setMultipliers_11 : decode bb_Tree_setMultipliers 11 = .ok (.getfield 27, 3) := by decide +kernel
theorem dd_Tree_setMultipliers_14 : decode bb_Tree_setMultipliers 14 = .ok (.iload 6, 2) := by decide +kernel
theorem dd_Tree_setMultipliers_16 : decode bb_Tree_setMultipliers 16 = .ok (.iload_n 3, 1) := by decide +kernel
theorem dd_Tree_setMultipliers_17 : decode bb_Tree_setMultipliers 17 = .ok (.iastore, 1) := by decide +kernel
theorem dd_Tree_setMultipliers_18 : decode bb_Tree_setMultipliers 18 = .ok (.aload_n 0, 1) := by decide +kernel
theorem dd_Tree_setMultipliers_19 : decode bb_Tree_setMultipliers 19 = .ok (.getfield 27, 3) := by decide +kernel
theorem dd_Tree_setMultipliers_22 : decode bb_Tree_setMultipliers 22 = .ok (.iload 6, 2) := by decide +kernel
theorem dd_Tree_setMultipliers_24 : decode bb_Tree_setMultipliers 24 = .ok (.iconst 1, 1) := by decide +kernel
theorem dd_Tree_setMultipliers_25 : decode bb_Tree_setMultipliers 25 = .ok (.iadd, 1) := by decide +kernel
theorem dd_Tree_setMultipliers_26 : decode bb_Tree_setMultipliers 26 = .ok (.iload 4, 2) := by decide +kernel
theorem dd_Tree_setMultipliers_28 : decode bb_Tree_setMultipliers 28 = .ok (.iastore, 1) := by decide +kernel
theorem dd_Tree_setMultipliers_29 : decode bb_Tree_setMultipliers 29 = .ok (.aload_n 0, 1) := by decide +kernel
theorem dd_Tree_setMultipliers_30 : decode bb_Tree_setMultipliers 30 = .ok (.getfield 27, 3) := by decide +kernel
theorem dd_Tree_setMultipliers_33 : decode bb_Tree_setMultipliers 33 = .ok (.iload 6, 2) := by decide +kernel
theorem dd_Tree_setMultipliers_35 : decode bb_Tree_setMultipliers 35 = .ok (.iconst 2, 1) := by decide +kernel
theorem dd_Tree_setMultipliers_36 : decode bb_Tree_setMultipliers 36 = .ok (.iadd, 1) := by decide +kernel
theorem dd_Tree_setMultipliers_37 : decode bb_Tree_setMultipliers 37 = .ok (.iload 5, 2) := by decide +kernel
theorem dd_Tree_setMultipliers_39 : decode bb_Tree_setMultipliers 39 = .ok (.iastore, 1) := by decide +kernel
theorem dd_Tree_setMultipliers_40 : decode bb_Tree_setMultipliers 40 = .ok (.return_, 1) := by decide +kernel
theorem dd_Tree_holds_0 : decode bb_Tree_holds 0 = .ok (.aload_n 0, 1) := by decide +kernel
theorem dd_Tree_holds_1 : decode bb_Tree_holds 1 = .ok (.aload_n 1, 1) := by decide +kernel
theorem dd_Tree_holds_2 : decode bb_Tree_holds 2 = .ok (.aload_n 2, 1) := by decide +kernel
theorem dd_Tree_holds_3 : decode bb_Tree_holds 3 = .ok (.iconst 0, 1) := by decide +kernel
theorem dd_Tree_holds_4 : decode bb_Tree_holds 4 = .ok (.iconst 0, 1) := by decide +kernel
theorem dd_Tree_holds_5 : decode bb_Tree_holds 5 = .ok (.invokevirtual 36, 3) := by decide +kernel
theorem dd_Tree_holds_8 : decode bb_Tree_holds 8 = .ok (.ireturn, 1) := by decide +kernel
theorem dd_Tree_isSoundAt_0 : decode bb_Tree_isSoundAt 0 = .ok (.iload 4, 2) := by decide +kernel
theorem dd_Tree_isSoundAt_2 : decode bb_Tree_isSoundAt 2 = .ok (.bipush 40, 2) := by decide +kernel
theorem dd_Tree_isSoundAt_4 : decode bb_Tree_isSoundAt 4 = .ok (.if_icmp .ge 12, 3) := by decide +kernel
theorem dd_Tree_isSoundAt_7 : decode bb_Tree_isSoundAt 7 = .ok (.aload_n 0, 1) := by decide +kernel
theorem dd_Tree_isSoundAt_8 : decode bb_Tree_isSoundAt 8 = .ok (.getfield 9, 3) := by decide +kernel
theorem dd_Tree_isSoundAt_11 : decode bb_Tree_isSoundAt 11 = .ok (.iload_n 3, 1) := by decide +kernel
theorem dd_Tree_isSoundAt_12 : decode bb_Tree_isSoundAt 12 = .ok (.iaload, 1) := by decide +kernel
theorem dd_Tree_isSoundAt_13 : decode bb_Tree_isSoundAt 13 = .ok (.ifCond .ne 5, 3) := by decide +kernel
theorem dd_Tree_isSoundAt_16 : decode bb_Tree_isSoundAt 16 = .ok (.iconst 0, 1) := by decide +kernel
theorem dd_Tree_isSoundAt_17 : decode bb_Tree_isSoundAt 17 = .ok (.ireturn, 1) := by decide +kernel
theorem dd_Tree_isSoundAt_18 : decode bb_Tree_isSoundAt 18 = .ok (.aload_n 0, 1) := by decide +kernel
theorem dd_Tree_isSoundAt_19 : decode bb_Tree_isSoundAt 19 = .ok (.getfield 9, 3) := by decide +kernel
theorem dd_Tree_isSoundAt_22 : decode bb_Tree_isSoundAt 22 = .ok (.iload_n 3, 1) := by decide +kernel
theorem dd_Tree_isSoundAt_23 : decode bb_Tree_isSoundAt 23 = .ok (.iaload, 1) := by decide +kernel
theorem dd_Tree_isSoundAt_24 : decode bb_Tree_isSoundAt 24 = .ok (.iconst 2, 1) := by decide +kernel
theorem dd_Tree_isSoundAt_25 : decode bb_Tree_isSoundAt 25 = .ok (.if_icmp .ne 30, 3) := by decide +kernel
theorem dd_Tree_isSoundAt_28 : decode bb_Tree_isSoundAt 28 = .ok (.aload_n 1, 1) := by decide +kernel
theorem dd_Tree_isSoundAt_29 : decode bb_Tree_isSoundAt 29 = .ok (.aload_n 0, 1) := by decide +kernel
theorem dd_Tree_isSoundAt_30 : decode bb_Tree_isSoundAt 30 = .ok (.getfield 27, 3) := by decide +kernel
theorem dd_Tree_isSoundAt_33 : decode bb_Tree_isSoundAt 33 = .ok (.iload_n 3, 1) := by decide +kernel
theorem dd_Tree_isSoundAt_34 : decode bb_Tree_isSoundAt 34 = .ok (.bipush 7, 2) := by decide +kernel
theorem dd_Tree_isSoundAt_36 : decode bb_Tree_isSoundAt 36 = .ok (.imul, 1) := by decide +kernel
theorem dd_Tree_isSoundAt_37 : decode bb_Tree_isSoundAt 37 = .ok (.aload_n 0, 1) := by decide +kernel
theorem dd_Tree_isSoundAt_38 : decode bb_Tree_isSoundAt 38 = .ok (.getfield 32, 3) := by decide +kernel
theorem dd_Tree_isSoundAt_41 : decode bb_Tree_isSoundAt 41 = .ok (.iconst 0, 1) := by decide +kernel
theorem dd_Tree_isSoundAt_42 : decode bb_Tree_isSoundAt 42 = .ok (.invokestatic 40, 3) := by decide +kernel
theorem dd_Tree_isSoundAt_45 : decode bb_Tree_isSoundAt 45 = .ok (.aload_n 2, 1) := by decide +kernel
theorem dd_Tree_isSoundAt_46 : decode bb_Tree_isSoundAt 46 = .ok (.aload_n 0, 1) := by decide +kernel
theorem dd_Tree_isSoundAt_47 : decode bb_Tree_isSoundAt 47 = .ok (.getfield 32, 3) := by decide +kernel
theorem dd_Tree_isSoundAt_50 : decode bb_Tree_isSoundAt 50 = .ok (.iconst 0, 1) := by decide +kernel
theorem dd_Tree_isSoundAt_51 : decode bb_Tree_isSoundAt 51 = .ok (.invokevirtual 44, 3) := by decide +kernel
theorem dd_Tree_isSoundAt_54 : decode bb_Tree_isSoundAt 54 = .ok (.ireturn, 1) := by decide +kernel
theorem dd_Tree_isSoundAt_55 : decode bb_Tree_isSoundAt 55 = .ok (.aload_n 0, 1) := by decide +kernel
theorem dd_Tree_isSoundAt_56 : decode bb_Tree_isSoundAt 56 = .ok (.getfield 15, 3) := by decide +kernel
theorem dd_Tree_isSoundAt_59 : decode bb_Tree_isSoundAt 59 = .ok (.iload_n 3, 1) := by decide +kernel
theorem dd_Tree_isSoundAt_60 : decode bb_Tree_isSoundAt 60 = .ok (.iaload, 1) := by decide +kernel
theorem dd_Tree_isSoundAt_61 : decode bb_Tree_isSoundAt 61 = .ok (.istore 5, 2) := by decide +kernel
theorem dd_Tree_isSoundAt_63 : decode bb_Tree_isSoundAt 63 = .ok (.aload_n 0, 1) := by decide +kernel
theorem dd_Tree_isSoundAt_64 : decode bb_Tree_isSoundAt 64 = .ok (.getfield 18, 3) := by decide +kernel
theorem dd_Tree_isSoundAt_67 : decode bb_Tree_isSoundAt 67 = .ok (.iload_n 3, 1) := by decide +kernel
theorem dd_Tree_isSoundAt_68 : decode bb_Tree_isSoundAt 68 = .ok (.iaload, 1) := by decide +kernel
theorem dd_Tree_isSoundAt_69 : decode bb_Tree_isSoundAt 69 = .ok (.istore 6, 2) := by decide +kernel
theorem dd_Tree_isSoundAt_71 : decode bb_Tree_isSoundAt 71 = .ok (.aload_n 2, 1) := by decide +kernel
theorem dd_Tree_isSoundAt_72 : decode bb_Tree_isSoundAt 72 = .ok (.getfield 48, 3) := by decide +kernel
theorem dd_Tree_isSoundAt_75 : decode bb_Tree_isSoundAt 75 = .ok (.iload 5, 2) := by decide +kernel
theorem dd_Tree_isSoundAt_77 : decode bb_Tree_isSoundAt 77 = .ok (.iaload, 1) := by decide +kernel
theorem dd_Tree_isSoundAt_78 : decode bb_Tree_isSoundAt 78 = .ok (.istore 7, 2) := by decide +kernel
theorem dd_Tree_isSoundAt_80 : decode bb_Tree_isSoundAt 80 = .ok (.aload_n 2, 1) := by decide +kernel
theorem dd_Tree_isSoundAt_81 : decode bb_Tree_isSoundAt 81 = .ok (.getfield 51, 3) := by decide +kernel
theorem dd_Tree_isSoundAt_84 : decode bb_Tree_isSoundAt 84 = .ok (.iload 5, 2) := by decide +kernel
theorem dd_Tree_isSoundAt_86 : decode bb_Tree_isSoundAt 86 = .ok (.iaload, 1) := by decide +kernel
theorem dd_Tree_isSoundAt_87 : decode bb_Tree_isSoundAt 87 = .ok (.istore 8, 2) := by decide +kernel
theorem dd_Tree_isSoundAt_89 : decode bb_Tree_isSoundAt 89 = .ok (.iload 5, 2) := by decide +kernel
theorem dd_Tree_isSoundAt_91 : decode bb_Tree_isSoundAt 91 = .ok (.aload_n 1, 1) := by decide +kernel
theorem dd_Tree_isSoundAt_92 : decode bb_Tree_isSoundAt 92 = .ok (.getfield 54, 3) := by decide +kernel
theorem dd_Tree_isSoundAt_95 : decode bb_Tree_isSoundAt 95 = .ok (.if_icmp .ge 27, 3) := by decide +kernel
theorem dd_Tree_isSoundAt_98 : decode bb_Tree_isSoundAt 98 = .ok (.aload_n 1, 1) := by decide +kernel
theorem dd_Tree_isSoundAt_99 : decode bb_Tree_isSoundAt 99 = .ok (.getfield 60, 3) := by decide +kernel
theorem dd_Tree_isSoundAt_102 : decode bb_Tree_isSoundAt 102 = .ok (.iload 5, 2) := by decide +kernel
theorem dd_Tree_isSoundAt_104 : decode bb_Tree_isSoundAt 104 = .ok (.baload, 1) := by decide +kernel
theorem dd_Tree_isSoundAt_105 : decode bb_Tree_isSoundAt 105 = .ok (.ifCond .eq 17, 3) := by decide +kernel
theorem dd_Tree_isSoundAt_108 : decode bb_Tree_isSoundAt 108 = .ok (.iload 6, 2) := by decide +kernel
theorem dd_Tree_isSoundAt_110 : decode bb_Tree_isSoundAt 110 = .ok (.iload 7, 2) := by decide +kernel
theorem dd_Tree_isSoundAt_112 : decode bb_Tree_isSoundAt 112 = .ok (.if_icmp .lt 10, 3) := by decide +kernel
theorem dd_Tree_isSoundAt_115 : decode bb_Tree_isSoundAt 115 = .ok (.iload 6, 2) := by decide +kernel
theorem dd_Tree_isSoundAt_117 : decode bb_Tree_isSoundAt 117 = .ok (.iload 8, 2) := by decide +kernel
theorem dd_Tree_isSoundAt_119 : decode bb_Tree_isSoundAt 119 = .ok (.if_icmp .lt 5, 3) := by decide +kernel
theorem dd_Tree_isSoundAt_122 : decode bb_Tree_isSoundAt 122 = .ok (.iconst 0, 1) := by decide +kernel
theorem dd_Tree_isSoundAt_123 : decode bb_Tree_isSoundAt 123 = .ok (.ireturn, 1) := by decide +kernel
theorem dd_Tree_isSoundAt_124 : decode bb_Tree_isSoundAt 124 = .ok (.aload_n 2, 1) := by decide +kernel
theorem dd_Tree_isSoundAt_125 : decode bb_Tree_isSoundAt 125 = .ok (.getfield 51, 3) := by decide +kernel
theorem dd_Tree_isSoundAt_128 : decode bb_Tree_isSoundAt 128 = .ok (.iload 5, 2) := by decide +kernel
theorem dd_Tree_isSoundAt_130 : decode bb_Tree_isSoundAt 130 = .ok (.iload 6, 2) := by decide +kernel
theorem dd_Tree_isSoundAt_132 : decode bb_Tree_isSoundAt 132 = .ok (.iastore, 1) := by decide +kernel
theorem dd_Tree_isSoundAt_133 : decode bb_Tree_isSoundAt 133 = .ok (.aload_n 0, 1) := by decide +kernel
theorem dd_Tree_isSoundAt_134 : decode bb_Tree_isSoundAt 134 = .ok (.aload_n 1, 1) := by decide +kernel
theorem dd_Tree_isSoundAt_135 : decode bb_Tree_isSoundAt 135 = .ok (.aload_n 2, 1) := by decide +kernel
theorem dd_Tree_isSoundAt_136 : decode bb_Tree_isSoundAt 136 = .ok (.aload_n 0, 1) := by decide +kernel
theorem dd_Tree_isSoundAt_137 : decode bb_Tree_isSoundAt 137 = .ok (.getfield 21, 3) := by decide +kernel
theorem dd_Tree_isSoundAt_140 : decode bb_Tree_isSoundAt 140 = .ok (.iload_n 3, 1) := by decide +kernel
theorem dd_Tree_isSoundAt_141 : decode bb_Tree_isSoundAt 141 = .ok (.iaload, 1) := by decide +kernel
theorem dd_Tree_isSoundAt_142 : decode bb_Tree_isSoundAt 142 = .ok (.iload 4, 2) := by decide +kernel
theorem dd_Tree_isSoundAt_144 : decode bb_Tree_isSoundAt 144 = .ok (.iconst 1, 1) := by decide +kernel
theorem dd_Tree_isSoundAt_145 : decode bb_Tree_isSoundAt 145 = .ok (.iadd, 1) := by decide +kernel
theorem dd_Tree_isSoundAt_146 : decode bb_Tree_isSoundAt 146 = .ok (.invokevirtual 36, 3) := by decide +kernel
theorem dd_Tree_isSoundAt_149 : decode bb_Tree_isSoundAt 149 = .ok (.istore 9, 2) := by decide +kernel
theorem dd_Tree_isSoundAt_151 : decode bb_Tree_isSoundAt 151 = .ok (.aload_n 2, 1) := by decide +kernel
theorem dd_Tree_isSoundAt_152 : decode bb_Tree_isSoundAt 152 = .ok (.getfield 51, 3) := by decide +kernel
theorem dd_Tree_isSoundAt_155 : decode bb_Tree_isSoundAt 155 = .ok (.iload 5, 2) := by decide +kernel
theorem dd_Tree_isSoundAt_157 : decode bb_Tree_isSoundAt 157 = .ok (.iload 8, 2) := by decide +kernel
theorem dd_Tree_isSoundAt_159 : decode bb_Tree_isSoundAt 159 = .ok (.iastore, 1) := by decide +kernel
theorem dd_Tree_isSoundAt_160 : decode bb_Tree_isSoundAt 160 = .ok (.iload 9, 2) := by decide +kernel
theorem dd_Tree_isSoundAt_162 : decode bb_Tree_isSoundAt 162 = .ok (.ifCond .ne 5, 3) := by decide +kernel
theorem dd_Tree_isSoundAt_165 : decode bb_Tree_isSoundAt 165 = .ok (.iconst 0, 1) := by decide +kernel
theorem dd_Tree_isSoundAt_166 : decode bb_Tree_isSoundAt 166 = .ok (.ireturn, 1) := by decide +kernel
theorem dd_Tree_isSoundAt_167 : decode bb_Tree_isSoundAt 167 = .ok (.aload_n 2, 1) := by decide +kernel
theorem dd_Tree_isSoundAt_168 : decode bb_Tree_isSoundAt 168 = .ok (.getfield 48, 3) := by decide +kernel
theorem dd_Tree_isSoundAt_171 : decode bb_Tree_isSoundAt 171 = .ok (.iload 5, 2) := by decide +kernel
theorem dd_Tree_isSoundAt_173 : decode bb_Tree_isSoundAt 173 = .ok (.iload 6, 2) := by decide +kernel
theorem dd_Tree_isSoundAt_175 : decode bb_Tree_isSoundAt 175 = .ok (.iconst 1, 1) := by decide +kernel
theorem dd_Tree_isSoundAt_176 : decode bb_Tree_isSoundAt 176 = .ok (.iadd, 1) := by decide +kernel
theorem dd_Tree_isSoundAt_177 : decode bb_Tree_isSoundAt 177 = .ok (.iastore, 1) := by decide +kernel
theorem dd_Tree_isSoundAt_178 : decode bb_Tree_isSoundAt 178 = .ok (.aload_n 0, 1) := by decide +kernel
theorem dd_Tree_isSoundAt_179 : decode bb_Tree_isSoundAt 179 = .ok (.aload_n 1, 1) := by decide +kernel
theorem dd_Tree_isSoundAt_180 : decode bb_Tree_isSoundAt 180 = .ok (.aload_n 2, 1) := by decide +kernel
theorem dd_Tree_isSoundAt_181 : decode bb_Tree_isSoundAt 181 = .ok (.aload_n 0, 1) := by decide +kernel
theorem dd_Tree_isSoundAt_182 : decode bb_Tree_isSoundAt 182 = .ok (.getfield 24, 3) := by decide +kernel
theorem dd_Tree_isSoundAt_185 : decode bb_Tree_isSoundAt 185 = .ok (.iload_n 3, 1) := by decide +kernel
theorem dd_Tree_isSoundAt_186 : decode bb_Tree_isSoundAt 186 = .ok (.iaload, 1) := by decide +kernel
theorem dd_Tree_isSoundAt_187 : decode bb_Tree_isSoundAt 187 = .ok (.iload 4, 2) := by decide +kernel
theorem dd_Tree_isSoundAt_189 : decode bb_Tree_isSoundAt 189 = .ok (.iconst 1, 1) := by decide +kernel
theorem dd_Tree_isSoundAt_190 : decode bb_Tree_isSoundAt 190 = .ok (.iadd, 1) := by decide +kernel
theorem dd_Tree_isSoundAt_191 : decode bb_Tree_isSoundAt 191 = .ok (.invokevirtual 36, 3) := by decide +kernel
theorem dd_Tree_isSoundAt_194 : decode bb_Tree_isSoundAt 194 = .ok (.istore 10, 2) := by decide +kernel
theorem dd_Tree_isSoundAt_196 : decode bb_Tree_isSoundAt 196 = .ok (.aload_n 2, 1) := by decide +kernel
theorem dd_Tree_isSoundAt_197 : decode bb_Tree_isSoundAt 197 = .ok (.getfield 48, 3) := by decide +kernel
theorem dd_Tree_isSoundAt_200 : decode bb_Tree_isSoundAt 200 = .ok (.iload 5, 2) := by decide +kernel
theorem dd_Tree_isSoundAt_202 : decode bb_Tree_isSoundAt 202 = .ok (.iload 7, 2) := by decide +kernel
theorem dd_Tree_isSoundAt_204 : decode bb_Tree_isSoundAt 204 = .ok (.iastore, 1) := by decide +kernel
theorem dd_Tree_isSoundAt_205 : decode bb_Tree_isSoundAt 205 = .ok (.iload 10, 2) := by decide +kernel
theorem dd_Tree_isSoundAt_207 : decode bb_Tree_isSoundAt 207 = .ok (.ireturn, 1) := by decide +kernel
