theorem dd_Box_init_0 : decode bb_Box_init 0 = .ok (.aload_n 0, 1) := by decide +kernel
theorem dd_Box_init_1 : decode bb_Box_init 1 = .ok (.invokespecial 3, 3) := by decide +kernel
theorem dd_Box_init_4 : decode bb_Box_init 4 = .ok (.aload_n 0, 1) := by decide +kernel
theorem dd_Box_init_5 : decode bb_Box_init 5 = .ok (.iconst 4, 1) := by decide +kernel
theorem dd_Box_init_6 : decode bb_Box_init 6 = .ok (.newarray .int, 2) := by decide +kernel
theorem dd_Box_init_8 : decode bb_Box_init 8 = .ok (.putfield 9, 3) := by decide +kernel
theorem dd_Box_init_11 : decode bb_Box_init 11 = .ok (.aload_n 0, 1) := by decide +kernel
theorem dd_Box_init_12 : decode bb_Box_init 12 = .ok (.iconst 4, 1) := by decide +kernel
theorem dd_Box_init_13 : decode bb_Box_init 13 = .ok (.newarray .int, 2) := by decide +kernel
theorem dd_Box_init_15 : decode bb_Box_init 15 = .ok (.putfield 15, 3) := by decide +kernel
theorem dd_Box_init_18 : decode bb_Box_init 18 = .ok (.aload_n 0, 1) := by decide +kernel
theorem dd_Box_init_19 : decode bb_Box_init 19 = .ok (.iconst 0, 1) := by decide +kernel
theorem dd_Box_init_20 : decode bb_Box_init 20 = .ok (.putfield 18, 3) := by decide +kernel
theorem dd_Box_init_23 : decode bb_Box_init 23 = .ok (.aload_n 0, 1) := by decide +kernel
theorem dd_Box_init_24 : decode bb_Box_init 24 = .ok (.lconst 0, 1) := by decide +kernel
theorem dd_Box_init_25 : decode bb_Box_init 25 = .ok (.putfield 22, 3) := by decide +kernel
theorem dd_Box_init_28 : decode bb_Box_init 28 = .ok (.aload_n 0, 1) := by decide +kernel
theorem dd_Box_init_29 : decode bb_Box_init 29 = .ok (.lconst 1, 1) := by decide +kernel
theorem dd_Box_init_30 : decode bb_Box_init 30 = .ok (.putfield 26, 3) := by decide +kernel
theorem dd_Box_init_33 : decode bb_Box_init 33 = .ok (.return_, 1) := by decide +kernel
theorem dd_Box_open_0 : decode bb_Box_open 0 = .ok (.aload_n 0, 1) := by decide +kernel
theorem dd_Box_open_1 : decode bb_Box_open 1 = .ok (.aload_n 1, 1) := by decide +kernel
theorem dd_Box_open_2 : decode bb_Box_open 2 = .ok (.getfield 29, 3) := by decide +kernel
theorem dd_Box_open_5 : decode bb_Box_open 5 = .ok (.putfield 18, 3) := by decide +kernel
theorem dd_Box_open_8 : decode bb_Box_open 8 = .ok (.aload_n 0, 1) := by decide +kernel
theorem dd_Box_open_9 : decode bb_Box_open 9 = .ok (.iload_n 2, 1) := by decide +kernel
theorem dd_Box_open_10 : decode bb_Box_open 10 = .ok (.i2l, 1) := by decide +kernel
theorem dd_Box_open_11 : decode bb_Box_open 11 = .ok (.putfield 22, 3) := by decide +kernel
theorem dd_Box_open_14 : decode bb_Box_open 14 = .ok (.aload_n 0, 1) := by decide +kernel
theorem dd_Box_open_15 : decode bb_Box_open 15 = .ok (.iload_n 3, 1) := by decide +kernel
theorem dd_Box_open_16 : decode bb_Box_open 16 = .ok (.i2l, 1) := by decide +kernel
theorem dd_Box_open_17 : decode bb_Box_open 17 = .ok (.putfield 26, 3) := by decide +kernel
theorem dd_Box_open_20 : decode bb_Box_open 20 = .ok (.iconst 0, 1) := by decide +kernel
theorem dd_Box_open_21 : decode bb_Box_open 21 = .ok (.istore 4, 2) := by decide +kernel
theorem dd_Box_open_23 : decode bb_Box_open 23 = .ok (.iload 4, 2) := by decide +kernel
theorem dd_Box_open_25 : decode bb_Box_open 25 = .ok (.iconst 4, 1) := by decide +kernel
theorem dd_Box_open_26 : decode bb_Box_open 26 = .ok (.if_icmp .ge 37, 3) := by decide +kernel
theorem dd_Box_open_29 : decode bb_Box_open 29 = .ok (.aload_n 0, 1) := by decide +kernel
theorem dd_Box_open_30 : decode bb_Box_open 30 = .ok (.getfield 9, 3) := by decide +kernel
theorem dd_Box_open_33 : decode bb_Box_open 33 = .ok (.iload 4, 2) := by decide +kernel
theorem dd_Box_open_35 : decode bb_Box_open 35 = .ok (.aload_n 1, 1) := by decide +kernel
theorem dd_Box_open_36 : decode bb_Box_open 36 = .ok (.getfield 32, 3) := by decide +kernel
theorem dd_Box_open_39 : decode bb_Box_open 39 = .ok (.iload 4, 2) := by decide +kernel
theorem dd_Box_open_41 : decode bb_Box_open 41 = .ok (.iaload, 1) := by decide +kernel
theorem dd_Box_open_42 : decode bb_Box_open 42 = .ok (.iastore, 1) := by decide +kernel
theorem dd_Box_open_43 : decode bb_Box_open 43 = .ok (.aload_n 0, 1) := by decide +kernel
theorem dd_Box_open_44 : decode bb_Box_open 44 = .ok (.getfield 15, 3) := by decide +kernel
theorem dd_Box_open_47 : decode bb_Box_open 47 = .ok (.iload 4, 2) := by decide +kernel
theorem dd_Box_open_49 : decode bb_Box_open 49 = .ok (.aload_n 1, 1) := by decide +kernel
theorem dd_Box_open_50 : decode bb_Box_open 50 = .ok (.getfield 33, 3) := by decide +kernel
theorem dd_Box_open_53 : decode bb_Box_open 53 = .ok (.iload 4, 2) := by decide +kernel
theorem dd_Box_open_55 : decode bb_Box_open 55 = .ok (.iaload, 1) := by decide +kernel
theorem dd_Box_open_56 : decode bb_Box_open 56 = .ok (.iastore, 1) := by decide +kernel
theorem dd_Box_open_57 : decode bb_Box_open 57 = .ok (.iinc 4 1, 3) := by decide +kernel
theorem dd_Box_open_60 : decode bb_Box_open 60 = .ok (.goto (-37), 3) := by decide +kernel
theorem dd_Box_open_63 : decode bb_Box_open 63 = .ok (.return_, 1) := by decide +kernel
theorem dd_Box_lay_0 : decode bb_Box_lay 0 = .ok (.aload_n 1, 1) := by decide +kernel
theorem dd_Box_lay_1 : decode bb_Box_lay 1 = .ok (.iload_n 2, 1) := by decide +kernel
theorem dd_Box_lay_2 : decode bb_Box_lay 2 = .ok (.iaload, 1) := by decide +kernel
theorem dd_Box_lay_3 : decode bb_Box_lay 3 = .ok (.i2l, 1) := by decide +kernel
theorem dd_Box_lay_4 : decode bb_Box_lay 4 = .ok (.lstore 5, 2) := by decide +kernel
theorem dd_Box_lay_6 : decode bb_Box_lay 6 = .ok (.aload_n 3, 1) := by decide +kernel
theorem dd_Box_lay_7 : decode bb_Box_lay 7 = .ok (.iload 4, 2) := by decide +kernel
theorem dd_Box_lay_9 : decode bb_Box_lay 9 = .ok (.lload 5, 2) := by decide +kernel
theorem dd_Box_lay_11 : decode bb_Box_lay 11 = .ok (.lastore, 1) := by decide +kernel
theorem dd_Box_lay_12 : decode bb_Box_lay 12 = .ok (.iconst 0, 1) := by decide +kernel
theorem dd_Box_lay_13 : decode bb_Box_lay 13 = .ok (.istore 7, 2) := by decide +kernel
theorem dd_Box_lay_15 : decode bb_Box_lay 15 = .ok (.iload 7, 2) := by decide +kernel
theorem dd_Box_lay_17 : decode bb_Box_lay 17 = .ok (.iconst 4, 1) := by decide +kernel
theorem dd_Box_lay_18 : decode bb_Box_lay 18 = .ok (.if_icmp .ge 77, 3) := by decide +kernel
theorem dd_Box_lay_21 : decode bb_Box_lay 21 = .ok (.lload 5, 2) := by decide +kernel
theorem dd_Box_lay_23 : decode bb_Box_lay 23 = .ok (.aload_n 0, 1) := by decide +kernel
theorem dd_Box_lay_24 : decode bb_Box_lay 24 = .ok (.getfield 34, 3) := by decide +kernel
theorem dd_Box_lay_27 : decode bb_Box_lay 27 = .ok (.iload 7, 2) := by decide +kernel
theorem dd_Box_lay_29 : decode bb_Box_lay 29 = .ok (.iaload, 1) := by decide +kernel
theorem dd_Box_lay_30 : decode bb_Box_lay 30 = .ok (.i2l, 1) := by decide +kernel
theorem dd_Box_lay_31 : decode bb_Box_lay 31 = .ok (.lmul, 1) := by decide +kernel
theorem dd_Box_lay_32 : decode bb_Box_lay 32 = .ok (.lstore 8, 2) := by decide +kernel
theorem dd_Box_lay_34 : decode bb_Box_lay 34 = .ok (.iconst 0, 1) := by decide +kernel
theorem dd_Box_lay_35 : decode bb_Box_lay 35 = .ok (.istore 10, 2) := by decide +kernel
theorem dd_Box_lay_37 : decode bb_Box_lay 37 = .ok (.iload 10, 2) := by decide +kernel
theorem dd_Box_lay_39 : decode bb_Box_lay 39 = .ok (.aload_n 0, 1) := by decide +kernel
theorem dd_Box_lay_40 : decode bb_Box_lay 40 = .ok (.getfield 37, 3) := by decide +kernel
theorem dd_Box_lay_43 : decode bb_Box_lay 43 = .ok (.if_icmp .ge 35, 3) := by decide +kernel
theorem dd_Box_lay_46 : decode bb_Box_lay 46 = .ok (.lload 8, 2) := by decide +kernel
theorem dd_Box_lay_48 : decode bb_Box_lay 48 = .ok (.aload_n 1, 1) := by decide +kernel
theorem dd_Box_lay_49 : decode bb_Box_lay 49 = .ok (.iload_n 2, 1) := by decide +kernel
theorem dd_Box_lay_50 : decode bb_Box_lay 50 = .ok (.iconst 1, 1) := by decide +kernel
theorem dd_Box_lay_51 : decode bb_Box_lay 51 = .ok (.iadd, 1) := by decide +kernel
theorem dd_Box_lay_52 : decode bb_Box_lay 52 = .ok (.iload 10, 2) := by decide +kernel
theorem dd_Box_lay_54 : decode bb_Box_lay 54 = .ok (.iadd, 1) := by decide +kernel
theorem dd_Box_lay_55 : decode bb_Box_lay 55 = .ok (.iaload, 1) := by decide +kernel
theorem dd_Box_lay_56 : decode bb_Box_lay 56 = .ok (.i2l, 1) := by decide +kernel
theorem dd_Box_lay_57 : decode bb_Box_lay 57 = .ok (.aload_n 0, 1) := by decide +kernel
theorem dd_Box_lay_58 : decode bb_Box_lay 58 = .ok (.getfield 40, 3) := by decide +kernel
theorem dd_Box_lay_61 : decode bb_Box_lay 61 = .ok (.iload 10, 2) := by decide +kernel
theorem dd_Box_lay_63 : decode bb_Box_lay 63 = .ok (.aaload, 1) := by decide +kernel
theorem dd_Box_lay_64 : decode bb_Box_lay 64 = .ok (.iload 7, 2) := by decide +kernel
theorem dd_Box_lay_66 : decode bb_Box_lay 66 = .ok (.iaload, 1) := by decide +kernel
theorem dd_Box_lay_67 : decode bb_Box_lay 67 = .ok (.i2l, 1) := by decide +kernel
theorem dd_Box_lay_68 : decode bb_Box_lay 68 = .ok (.lmul, 1) := by decide +kernel
theorem dd_Box_lay_69 : decode bb_Box_lay 69 = .ok (.ladd, 1) := by decide +kernel
theorem dd_Box_lay_70 : decode bb_Box_lay 70 = .ok (.lstore 8, 2) := by decide +kernel
theorem dd_Box_lay_72 : decode bb_Box_lay 72 = .ok (.iinc 10 1, 3) := by decide +kernel
theorem dd_Box_lay_75 : decode bb_Box_lay 75 = .ok (.goto (-38), 3) := by decide +kernel
theorem dd_Box_lay_78 : decode bb_Box_lay 78 = .ok (.aload_n 3, 1) := by decide +kernel
theorem dd_Box_lay_79 : decode bb_Box_lay 79 = .ok (.iload 4, 2) := by decide +kernel
theorem dd_Box_lay_81 : decode bb_Box_lay 81 = .ok (.iconst 1, 1) := by decide +kernel
theorem dd_Box_lay_82 : decode bb_Box_lay 82 = .ok (.iadd, 1) := by decide +kernel
theorem dd_Box_lay_83 : decode bb_Box_lay 83 = .ok (.iload 7, 2) := by decide +kernel
theorem dd_Box_lay_85 : decode bb_Box_lay 85 = .ok (.iadd, 1) := by decide +kernel
theorem dd_Box_lay_86 : decode bb_Box_lay 86 = .ok (.lload 8, 2) := by decide +kernel
theorem dd_Box_lay_88 : decode bb_Box_lay 88 = .ok (.lastore, 1) := by decide +kernel
theorem dd_Box_lay_89 : decode bb_Box_lay 89 = .ok (.iinc 7 1, 3) := by decide +kernel
theorem dd_Box_lay_92 : decode bb_Box_lay 92 = .ok (.goto (-77), 3) := by decide +kernel
theorem dd_Box_lay_95 : decode bb_Box_lay 95 = .ok (.lconst 0, 1) := by decide +kernel
theorem dd_Box_lay_96 : decode bb_Box_lay 96 = .ok (.lstore 7, 2) := by decide +kernel
theorem dd_Box_lay_98 : decode bb_Box_lay 98 = .ok (.iconst 0, 1) := by decide +kernel
theorem dd_Box_lay_99 : decode bb_Box_lay 99 = .ok (.istore 9, 2) := by decide +kernel
theorem dd_Box_lay_101 : decode bb_Box_lay 101 = .ok (.iload 9, 2) := by decide +kernel
theorem dd_Box_lay_103 : decode bb_Box_lay 103 = .ok (.aload_n 0, 1) := by decide +kernel
theorem dd_Box_lay_104 : decode bb_Box_lay 104 = .ok (.getfield 37, 3) := by decide +kernel
theorem dd_Box_lay_107 : decode bb_Box_lay 107 = .ok (.if_icmp .ge 32, 3) := by decide +kernel
theorem dd_Box_lay_110 : decode bb_Box_lay 110 = .ok (.lload 7, 2) := by decide +kernel
theorem dd_Box_lay_112 : decode bb_Box_lay 112 = .ok (.aload_n 1, 1) := by decide +kernel
theorem dd_Box_lay_113 : decode bb_Box_lay 113 = .ok (.iload_n 2, 1) := by decide +kernel
theorem dd_Box_lay_114 : decode bb_Box_lay 114 = .ok (.iconst 1, 1) := by decide +kernel
theorem dd_Box_lay_115 : decode bb_Box_lay 115 = .ok (.iadd, 1) := by decide +kernel
theorem dd_Box_lay_116 : decode bb_Box_lay 116 = .ok (.iload 9, 2) := by decide +kernel
theorem dd_Box_lay_118 : decode bb_Box_lay 118 = .ok (.iadd, 1) := by decide +kernel
theorem dd_Box_lay_119 : decode bb_Box_lay 119 = .ok (.iaload, 1) := by decide +kernel
theorem dd_Box_lay_120 : decode bb_Box_lay 120 = .ok (.i2l, 1) := by decide +kernel
theorem dd_Box_lay_121 : decode bb_Box_lay 121 = .ok (.aload_n 0, 1) := by decide +kernel
theorem dd_Box_lay_122 : decode bb_Box_lay 122 = .ok (.getfield 44, 3) := by decide +kernel
theorem dd_Box_lay_125 : decode bb_Box_lay 125 = .ok (.iload 9, 2) := by decide +kernel
theorem dd_Box_lay_127 : decode bb_Box_lay 127 = .ok (.iaload, 1) := by decide +kernel
theorem dd_Box_lay_128 : decode bb_Box_lay 128 = .ok (.i2l, 1) := by decide +kernel
theorem dd_Box_lay_129 : decode bb_Box_lay 129 = .ok (.lmul, 1) := by decide +kernel
theorem dd_Box_lay_130 : decode bb_Box_lay 130 = .ok (.ladd, 1) := by decide +kernel
theorem dd_Box_lay_131 : decode bb_Box_lay 131 = .ok (.lstore 7, 2) := by decide +kernel
theorem dd_Box_lay_133 : decode bb_Box_lay 133 = .ok (.iinc 9 1, 3) := by decide +kernel
theorem dd_Box_lay_136 : decode bb_Box_lay 136 = .ok (.goto (-35), 3) := by decide +kernel
theorem dd_Box_lay_139 : decode bb_Box_lay 139 = .ok (.aload_n 3, 1) := by decide +kernel
theorem dd_Box_lay_140 : decode bb_Box_lay 140 = .ok (.iload 4, 2) := by decide +kernel
theorem dd_Box_lay_142 : decode bb_Box_lay 142 = .ok (.iconst 1, 1) := by decide +kernel
theorem dd_Box_lay_143 : decode bb_Box_lay 143 = .ok (.iadd, 1) := by decide +kernel
theorem dd_Box_lay_144 : decode bb_Box_lay 144 = .ok (.iconst 4, 1) := by decide +kernel
theorem dd_Box_lay_145 : decode bb_Box_lay 145 = .ok (.iadd, 1) := by decide +kernel
theorem dd_Box_lay_146 : decode bb_Box_lay 146 = .ok (.lload 7, 2) := by decide +kernel
theorem dd_Box_lay_148 : decode bb_Box_lay 148 = .ok (.lastore, 1) := by decide +kernel
theorem dd_Box_lay_149 : decode bb_Box_lay 149 = .ok (.return_, 1) := by decide +kernel
theorem dd_Box_isEndedBy_0 : decode bb_Box_isEndedBy 0 = .ok (.aload_n 1, 1) := by decide +kernel
theorem dd_Box_isEndedBy_1 : decode bb_Box_isEndedBy 1 = .ok (.iload_n 2, 1) := by decide +kernel
theorem dd_Box_isEndedBy_2 : decode bb_Box_isEndedBy 2 = .ok (.laload, 1) := by decide +kernel
theorem dd_Box_isEndedBy_3 : decode bb_Box_isEndedBy 3 = .ok (.lstore_n 3, 1) := by decide +kernel
theorem dd_Box_isEndedBy_4 : decode bb_Box_isEndedBy 4 = .ok (.aload_n 1, 1) := by decide +kernel
theorem dd_Box_isEndedBy_5 : decode bb_Box_isEndedBy 5 = .ok (.iload_n 2, 1) := by decide +kernel
theorem dd_Box_isEndedBy_6 : decode bb_Box_isEndedBy 6 = .ok (.iconst 1, 1) := by decide +kernel
theorem dd_Box_isEndedBy_7 : decode bb_Box_isEndedBy 7 = .ok (.iadd, 1) := by decide +kernel
theorem dd_Box_isEndedBy_8 : decode bb_Box_isEndedBy 8 = .ok (.iconst 4, 1) := by decide +kernel
theorem dd_Box_isEndedBy_9 : decode bb_Box_isEndedBy 9 = .ok (.iadd, 1) := by decide +kernel
theorem dd_Box_isEndedBy_10 : decode bb_Box_isEndedBy 10 = .ok (.laload, 1) := by decide +kernel
theorem dd_Box_isEndedBy_11 : decode bb_Box_isEndedBy 11 = .ok (.lneg, 1) := by decide +kernel
theorem dd_Box_isEndedBy_12 : decode bb_Box_isEndedBy 12 = .ok (.lstore 5, 2) := by decide +kernel
theorem dd_Box_isEndedBy_14 : decode bb_Box_isEndedBy 14 = .ok (.iconst 0, 1) := by decide +kernel
theorem dd_Box_isEndedBy_15 : decode bb_Box_isEndedBy 15 = .ok (.istore 7, 2) := by decide +kernel
theorem dd_Box_isEndedBy_17 : decode bb_Box_isEndedBy 17 = .ok (.iload 7, 2) := by decide +kernel
theorem dd_Box_isEndedBy_19 : decode bb_Box_isEndedBy 19 = .ok (.aload_n 0, 1) := by decide +kernel
theorem dd_Box_isEndedBy_20 : decode bb_Box_isEndedBy 20 = .ok (.getfield 18, 3) := by decide +kernel
theorem dd_Box_isEndedBy_23 : decode bb_Box_isEndedBy 23 = .ok (.if_icmp .ge 52, 3) := by decide +kernel
theorem dd_Box_isEndedBy_26 : decode bb_Box_isEndedBy 26 = .ok (.aload_n 1, 1) := by decide +kernel
theorem dd_Box_isEndedBy_27 : decode bb_Box_isEndedBy 27 = .ok (.iload_n 2, 1) := by decide +kernel
theorem dd_Box_isEndedBy_28 : decode bb_Box_isEndedBy 28 = .ok (.iconst 1, 1) := by decide +kernel
theorem dd_Box_isEndedBy_29 : decode bb_Box_isEndedBy 29 = .ok (.iadd, 1) := by decide +kernel
theorem dd_Box_isEndedBy_30 : decode bb_Box_isEndedBy 30 = .ok (.iload 7, 2) := by decide +kernel
theorem dd_Box_isEndedBy_32 : decode bb_Box_isEndedBy 32 = .ok (.iadd, 1) := by decide +kernel
theorem dd_Box_isEndedBy_33 : decode bb_Box_isEndedBy 33 = .ok (.laload, 1) := by decide +kernel
theorem dd_Box_isEndedBy_34 : decode bb_Box_isEndedBy 34 = .ok (.lstore 8, 2) := by decide +kernel
theorem dd_Box_isEndedBy_36 : decode bb_Box_isEndedBy 36 = .ok (.lload 5, 2) := by decide +kernel
theorem dd_Box_isEndedBy_38 : decode bb_Box_isEndedBy 38 = .ok (.lload 8, 2) := by decide +kernel
theorem dd_Box_isEndedBy_40 : decode bb_Box_isEndedBy 40 = .ok (.lload 8, 2) := by decide +kernel
theorem dd_Box_isEndedBy_42 : decode bb_Box_isEndedBy 42 = .ok (.lconst 0, 1) := by decide +kernel
theorem dd_Box_isEndedBy_43 : decode bb_Box_isEndedBy 43 = .ok (.lcmp, 1) := by decide +kernel
theorem dd_Box_isEndedBy_44 : decode bb_Box_isEndedBy 44 = .ok (.ifCond .lt 13, 3) := by decide +kernel
theorem dd_Box_isEndedBy_47 : decode bb_Box_isEndedBy 47 = .ok (.aload_n 0, 1) := by decide +kernel
theorem dd_Box_isEndedBy_48 : decode bb_Box_isEndedBy 48 = .ok (.getfield 9, 3) := by decide +kernel
theorem dd_Box_isEndedBy_51 : decode bb_Box_isEndedBy 51 = .ok (.iload 7, 2) := by decide +kernel
theorem dd_Box_isEndedBy_53 : decode bb_Box_isEndedBy 53 = .ok (.iaload, 1) := by decide +kernel
theorem dd_Box_isEndedBy_54 : decode bb_Box_isEndedBy 54 = .ok (.goto 10, 3) := by decide +kernel
theorem dd_Box_isEndedBy_57 : decode bb_Box_isEndedBy 57 = .ok (.aload_n 0, 1) := by decide +kernel
theorem dd_Box_isEndedBy_58 : decode bb_Box_isEndedBy 58 = .ok (.getfield 15, 3) := by decide +kernel
theorem dd_Box_isEndedBy_61 : decode bb_Box_isEndedBy 61 = .ok (.iload 7, 2) := by decide +kernel
theorem dd_Box_isEndedBy_63 : decode bb_Box_isEndedBy 63 = .ok (.iaload, 1) := by decide +kernel
theorem dd_Box_isEndedBy_64 : decode bb_Box_isEndedBy 64 = .ok (.i2l, 1) := by decide +kernel
theorem dd_Box_isEndedBy_65 : decode bb_Box_isEndedBy 65 = .ok (.lmul, 1) := by decide +kernel
theorem dd_Box_isEndedBy_66 : decode bb_Box_isEndedBy 66 = .ok (.ladd, 1) := by decide +kernel
theorem dd_Box_isEndedBy_67 : decode bb_Box_isEndedBy 67 = .ok (.lstore 5, 2) := by decide +kernel
theorem dd_Box_isEndedBy_69 : decode bb_Box_isEndedBy 69 = .ok (.iinc 7 1, 3) := by decide +kernel
theorem dd_Box_isEndedBy_72 : decode bb_Box_isEndedBy 72 = .ok (.goto (-55), 3) := by decide +kernel
theorem dd_Box_isEndedBy_75 : decode bb_Box_isEndedBy 75 = .ok (.lload_n 3, 1) := by decide +kernel
theorem dd_Box_isEndedBy_76 : decode bb_Box_isEndedBy 76 = .ok (.lconst 0, 1) := by decide +kernel
theorem dd_Box_isEndedBy_77 : decode bb_Box_isEndedBy 77 = .ok (.lcmp, 1) := by decide +kernel
theorem dd_Box_isEndedBy_78 : decode bb_Box_isEndedBy 78 = .ok (.ifCond .ne 18, 3) := by decide +kernel
theorem dd_Box_isEndedBy_81 : decode bb_Box_isEndedBy 81 = .ok (.lload 5, 2) := by decide +kernel
theorem dd_Box_isEndedBy_83 : decode bb_Box_isEndedBy 83 = .ok (.lconst 0, 1) := by decide +kernel
theorem dd_Box_isEndedBy_84 : decode bb_Box_isEndedBy 84 = .ok (.lcmp, 1) := by decide +kernel
theorem dd_Box_isEndedBy_85 : decode bb_Box_isEndedBy 85 = .ok (.ifCond .le 7, 3) := by decide +kernel
theorem dd_Box_isEndedBy_88 : decode bb_Box_isEndedBy 88 = .ok (.iconst 1, 1) := by decide +kernel
theorem dd_Box_isEndedBy_89 : decode bb_Box_isEndedBy 89 = .ok (.goto 29, 3) := by decide +kernel
theorem dd_Box_isEndedBy_92 : decode bb_Box_isEndedBy 92 = .ok (.iconst 0, 1) := by decide +kernel
theorem dd_Box_isEndedBy_93 : decode bb_Box_isEndedBy 93 = .ok (.goto 25, 3) := by decide +kernel
theorem dd_Box_isEndedBy_96 : decode bb_Box_isEndedBy 96 = .ok (.aload_n 0, 1) := by decide +kernel
theorem dd_Box_isEndedBy_97 : decode bb_Box_isEndedBy 97 = .ok (.getfield 26, 3) := by decide +kernel
theorem dd_Box_isEndedBy_100 : decode bb_Box_isEndedBy 100 = .ok (.lload 5, 2) := by decide +kernel
theorem dd_Box_isEndedBy_102 : decode bb_Box_isEndedBy 102 = .ok (.lmul, 1) := by decide +kernel
theorem dd_Box_isEndedBy_103 : decode bb_Box_isEndedBy 103 = .ok (.lload_n 3, 1) := by decide +kernel
theorem dd_Box_isEndedBy_104 : decode bb_Box_isEndedBy 104 = .ok (.aload_n 0, 1) := by decide +kernel
theorem dd_Box_isEndedBy_105 : decode bb_Box_isEndedBy 105 = .ok (.getfield 22, 3) := by decide +kernel
theorem dd_Box_isEndedBy_108 : decode bb_Box_isEndedBy 108 = .ok (.lmul, 1) := by decide +kernel
theorem dd_Box_isEndedBy_109 : decode bb_Box_isEndedBy 109 = .ok (.lcmp, 1) := by decide +kernel
theorem dd_Box_isEndedBy_110 : decode bb_Box_isEndedBy 110 = .ok (.ifCond .lt 7, 3) := by decide +kernel
theorem dd_Box_isEndedBy_113 : decode bb_Box_isEndedBy 113 = .ok (.iconst 1, 1) := by decide +kernel
theorem dd_Box_isEndedBy_114 : decode bb_Box_isEndedBy 114 = .ok (.goto 4, 3) := by decide +kernel
theorem dd_Box_isEndedBy_117 : decode bb_Box_isEndedBy 117 = .ok (.iconst 0, 1) := by decide +kernel
theorem dd_Box_isEndedBy_118 : decode bb_Box_isEndedBy 118 = .ok (.ireturn, 1) := by decide +kernel
