theorem dd_Model_drop_45 : decode bb_Model_drop 45 = .ok (.aload_n 0, 1) := by decide +kernel
theorem dd_Model_drop_46 : decode bb_Model_drop 46 = .ok (.getfield 83, 3) := by decide +kernel
theorem dd_Model_drop_49 : decode bb_Model_drop 49 = .ok (.if_icmp .ge 58, 3) := by decide +kernel
theorem dd_Model_drop_52 : decode bb_Model_drop 52 = .ok (.aload_n 0, 1) := by decide +kernel
theorem dd_Model_drop_53 : decode bb_Model_drop 53 = .ok (.getfield 30, 3) := by decide +kernel
theorem dd_Model_drop_56 : decode bb_Model_drop 56 = .ok (.iload_n 2, 1) := by decide +kernel
theorem dd_Model_drop_57 : decode bb_Model_drop 57 = .ok (.aload_n 0, 1) := by decide +kernel
theorem dd_Model_drop_58 : decode bb_Model_drop 58 = .ok (.getfield 30, 3) := by decide +kernel
theorem dd_Model_drop_61 : decode bb_Model_drop 61 = .ok (.iload_n 2, 1) := by decide +kernel
theorem dd_Model_drop_62 : decode bb_Model_drop 62 = .ok (.iconst 1, 1) := by decide +kernel
theorem dd_Model_drop_63 : decode bb_Model_drop 63 = .ok (.iadd, 1) := by decide +kernel
theorem dd_Model_drop_64 : decode bb_Model_drop 64 = .ok (.iaload, 1) := by decide +kernel
theorem dd_Model_drop_65 : decode bb_Model_drop 65 = .ok (.iastore, 1) := by decide +kernel
theorem dd_Model_drop_66 : decode bb_Model_drop 66 = .ok (.iconst 0, 1) := by decide +kernel
theorem dd_Model_drop_67 : decode bb_Model_drop 67 = .ok (.istore_n 3, 1) := by decide +kernel
theorem dd_Model_drop_68 : decode bb_Model_drop 68 = .ok (.iload_n 3, 1) := by decide +kernel
theorem dd_Model_drop_69 : decode bb_Model_drop 69 = .ok (.iconst 4, 1) := by decide +kernel
theorem dd_Model_drop_70 : decode bb_Model_drop 70 = .ok (.if_icmp .ge 31, 3) := by decide +kernel
theorem dd_Model_drop_73 : decode bb_Model_drop 73 = .ok (.aload_n 0, 1) := by decide +kernel
theorem dd_Model_drop_74 : decode bb_Model_drop 74 = .ok (.getfield 27, 3) := by decide +kernel
theorem dd_Model_drop_77 : decode bb_Model_drop 77 = .ok (.iconst 4, 1) := by decide +kernel
theorem dd_Model_drop_78 : decode bb_Model_drop 78 = .ok (.iload_n 2, 1) := by decide +kernel
theorem dd_Model_drop_79 : decode bb_Model_drop 79 = .ok (.imul, 1) := by decide +kernel
theorem dd_Model_drop_80 : decode bb_Model_drop 80 = .ok (.iload_n 3, 1) := by decide +kernel
theorem dd_Model_drop_81 : decode bb_Model_drop 81 = .ok (.iadd, 1) := by decide +kernel
theorem dd_Model_drop_82 : decode bb_Model_drop 82 = .ok (.aload_n 0, 1) := by decide +kernel
theorem dd_Model_drop_83 : decode bb_Model_drop 83 = .ok (.getfield 27, 3) := by decide +kernel
theorem dd_Model_drop_86 : decode bb_Model_drop 86 = .ok (.iconst 4, 1) := by decide +kernel
theorem dd_Model_drop_87 : decode bb_Model_drop 87 = .ok (.iload_n 2, 1) := by decide +kernel
theorem dd_Model_drop_88 : decode bb_Model_drop 88 = .ok (.imul, 1) := by decide +kernel
theorem dd_Model_drop_89 : decode bb_Model_drop 89 = .ok (.iconst 4, 1) := by decide +kernel
theorem dd_Model_drop_90 : decode bb_Model_drop 90 = .ok (.iadd, 1) := by decide +kernel
theorem dd_Model_drop_91 : decode bb_Model_drop 91 = .ok (.iload_n 3, 1) := by decide +kernel
theorem dd_Model_drop_92 : decode bb_Model_drop 92 = .ok (.iadd, 1) := by decide +kernel
theorem dd_Model_drop_93 : decode bb_Model_drop 93 = .ok (.iaload, 1) := by decide +kernel
theorem dd_Model_drop_94 : decode bb_Model_drop 94 = .ok (.iastore, 1) := by decide +kernel
theorem dd_Model_drop_95 : decode bb_Model_drop 95 = .ok (.iinc 3 1, 3) := by decide +kernel
theorem dd_Model_drop_98 : decode bb_Model_drop 98 = .ok (.goto (-30), 3) := by decide +kernel
theorem dd_Model_drop_101 : decode bb_Model_drop 101 = .ok (.iinc 2 1, 3) := by decide +kernel
theorem dd_Model_drop_104 : decode bb_Model_drop 104 = .ok (.goto (-60), 3) := by decide +kernel
theorem dd_Model_drop_107 : decode bb_Model_drop 107 = .ok (.aload_n 0, 1) := by decide +kernel
theorem dd_Model_drop_108 : decode bb_Model_drop 108 = .ok (.iconst 0, 1) := by decide +kernel
theorem dd_Model_drop_109 : decode bb_Model_drop 109 = .ok (.putfield 86, 3) := by decide +kernel
theorem dd_Model_drop_112 : decode bb_Model_drop 112 = .ok (.aload_n 0, 1) := by decide +kernel
theorem dd_Model_drop_113 : decode bb_Model_drop 113 = .ok (.getfield 83, 3) := by decide +kernel
theorem dd_Model_drop_116 : decode bb_Model_drop 116 = .ok (.ireturn, 1) := by decide +kernel
theorem dd_Model_isPlan_0 : decode bb_Model_isPlan 0 = .ok (.iconst 0, 1) := by decide +kernel
theorem dd_Model_isPlan_1 : decode bb_Model_isPlan 1 = .ok (.istore_n 1, 1) := by decide +kernel
theorem dd_Model_isPlan_2 : decode bb_Model_isPlan 2 = .ok (.iload_n 1, 1) := by decide +kernel
theorem dd_Model_isPlan_3 : decode bb_Model_isPlan 3 = .ok (.aload_n 0, 1) := by decide +kernel
theorem dd_Model_isPlan_4 : decode bb_Model_isPlan 4 = .ok (.getfield 7, 3) := by decide +kernel
theorem dd_Model_isPlan_7 : decode bb_Model_isPlan 7 = .ok (.if_icmp .ge 55, 3) := by decide +kernel
theorem dd_Model_isPlan_10 : decode bb_Model_isPlan 10 = .ok (.aload_n 0, 1) := by decide +kernel
theorem dd_Model_isPlan_11 : decode bb_Model_isPlan 11 = .ok (.getfield 37, 3) := by decide +kernel
theorem dd_Model_isPlan_14 : decode bb_Model_isPlan 14 = .ok (.iload_n 1, 1) := by decide +kernel
theorem dd_Model_isPlan_15 : decode bb_Model_isPlan 15 = .ok (.laload, 1) := by decide +kernel
theorem dd_Model_isPlan_16 : decode bb_Model_isPlan 16 = .ok (.aload_n 0, 1) := by decide +kernel
theorem dd_Model_isPlan_17 : decode bb_Model_isPlan 17 = .ok (.getfield 13, 3) := by decide +kernel
theorem dd_Model_isPlan_20 : decode bb_Model_isPlan 20 = .ok (.iload_n 1, 1) := by decide +kernel
theorem dd_Model_isPlan_21 : decode bb_Model_isPlan 21 = .ok (.iaload, 1) := by decide +kernel
theorem dd_Model_isPlan_22 : decode bb_Model_isPlan 22 = .ok (.i2l, 1) := by decide +kernel
theorem dd_Model_isPlan_23 : decode bb_Model_isPlan 23 = .ok (.aload_n 0, 1) := by decide +kernel
theorem dd_Model_isPlan_24 : decode bb_Model_isPlan 24 = .ok (.getfield 93, 3) := by decide +kernel
theorem dd_Model_isPlan_27 : decode bb_Model_isPlan 27 = .ok (.lmul, 1) := by decide +kernel
theorem dd_Model_isPlan_28 : decode bb_Model_isPlan 28 = .ok (.lcmp, 1) := by decide +kernel
theorem dd_Model_isPlan_29 : decode bb_Model_isPlan 29 = .ok (.ifCond .lt 25, 3) := by decide +kernel
theorem dd_Model_isPlan_32 : decode bb_Model_isPlan 32 = .ok (.aload_n 0, 1) := by decide +kernel
theorem dd_Model_isPlan_33 : decode bb_Model_isPlan 33 = .ok (.getfield 37, 3) := by decide +kernel
theorem dd_Model_isPlan_36 : decode bb_Model_isPlan 36 = .ok (.iload_n 1, 1) := by decide +kernel
theorem dd_Model_isPlan_37 : decode bb_Model_isPlan 37 = .ok (.laload, 1) := by decide +kernel
theorem dd_Model_isPlan_38 : decode bb_Model_isPlan 38 = .ok (.aload_n 0, 1) := by decide +kernel
theorem dd_Model_isPlan_39 : decode bb_Model_isPlan 39 = .ok (.getfield 17, 3) := by decide +kernel
theorem dd_Model_isPlan_42 : decode bb_Model_isPlan 42 = .ok (.iload_n 1, 1) := by decide +kernel
theorem dd_Model_isPlan_43 : decode bb_Model_isPlan 43 = .ok (.iaload, 1) := by decide +kernel
theorem dd_Model_isPlan_44 : decode bb_Model_isPlan 44 = .ok (.i2l, 1) := by decide +kernel
theorem dd_Model_isPlan_45 : decode bb_Model_isPlan 45 = .ok (.aload_n 0, 1) := by decide +kernel
theorem dd_Model_isPlan_46 : decode bb_Model_isPlan 46 = .ok (.getfield 93, 3) := by decide +kernel
theorem dd_Model_isPlan_49 : decode bb_Model_isPlan 49 = .ok (.lmul, 1) := by decide +kernel
theorem dd_Model_isPlan_50 : decode bb_Model_isPlan 50 = .ok (.lcmp, 1) := by decide +kernel
theorem dd_Model_isPlan_51 : decode bb_Model_isPlan 51 = .ok (.ifCond .le 5, 3) := by decide +kernel
theorem dd_Model_isPlan_54 : decode bb_Model_isPlan 54 = .ok (.iconst 0, 1) := by decide +kernel
theorem dd_Model_isPlan_55 : decode bb_Model_isPlan 55 = .ok (.ireturn, 1) := by decide +kernel
theorem dd_Model_isPlan_56 : decode bb_Model_isPlan 56 = .ok (.iinc 1 1, 3) := by decide +kernel
theorem dd_Model_isPlan_59 : decode bb_Model_isPlan 59 = .ok (.goto (-57), 3) := by decide +kernel
theorem dd_Model_isPlan_62 : decode bb_Model_isPlan 62 = .ok (.iconst 0, 1) := by decide +kernel
theorem dd_Model_isPlan_63 : decode bb_Model_isPlan 63 = .ok (.istore_n 1, 1) := by decide +kernel
theorem dd_Model_isPlan_64 : decode bb_Model_isPlan 64 = .ok (.iload_n 1, 1) := by decide +kernel
theorem dd_Model_isPlan_65 : decode bb_Model_isPlan 65 = .ok (.aload_n 0, 1) := by decide +kernel
theorem dd_Model_isPlan_66 : decode bb_Model_isPlan 66 = .ok (.getfield 83, 3) := by decide +kernel
theorem dd_Model_isPlan_69 : decode bb_Model_isPlan 69 = .ok (.if_icmp .ge 71, 3) := by decide +kernel
theorem dd_Model_isPlan_72 : decode bb_Model_isPlan 72 = .ok (.lconst 0, 1) := by decide +kernel
theorem dd_Model_isPlan_73 : decode bb_Model_isPlan 73 = .ok (.lstore_n 2, 1) := by decide +kernel
theorem dd_Model_isPlan_74 : decode bb_Model_isPlan 74 = .ok (.iconst 0, 1) := by decide +kernel
theorem dd_Model_isPlan_75 : decode bb_Model_isPlan 75 = .ok (.istore 4, 2) := by decide +kernel
theorem dd_Model_isPlan_77 : decode bb_Model_isPlan 77 = .ok (.iload 4, 2) := by decide +kernel
theorem dd_Model_isPlan_79 : decode bb_Model_isPlan 79 = .ok (.aload_n 0, 1) := by decide +kernel
theorem dd_Model_isPlan_80 : decode bb_Model_isPlan 80 = .ok (.getfield 7, 3) := by decide +kernel
theorem dd_Model_isPlan_83 : decode bb_Model_isPlan 83 = .ok (.if_icmp .ge 32, 3) := by decide +kernel
theorem dd_Model_isPlan_86 : decode bb_Model_isPlan 86 = .ok (.lload_n 2, 1) := by decide +kernel
theorem dd_Model_isPlan_87 : decode bb_Model_isPlan 87 = .ok (.aload_n 0, 1) := by decide +kernel
theorem dd_Model_isPlan_88 : decode bb_Model_isPlan 88 = .ok (.getfield 27, 3) := by decide +kernel
theorem dd_Model_isPlan_91 : decode bb_Model_isPlan 91 = .ok (.iconst 4, 1) := by decide +kernel
theorem dd_Model_isPlan_92 : decode bb_Model_isPlan 92 = .ok (.iload_n 1, 1) := by decide +kernel
theorem dd_Model_isPlan_93 : decode bb_Model_isPlan 93 = .ok (.imul, 1) := by decide +kernel
theorem dd_Model_isPlan_94 : decode bb_Model_isPlan 94 = .ok (.iload 4, 2) := by decide +kernel
theorem dd_Model_isPlan_96 : decode bb_Model_isPlan 96 = .ok (.iadd, 1) := by decide +kernel
theorem dd_Model_isPlan_97 : decode bb_Model_isPlan 97 = .ok (.iaload, 1) := by decide +kernel
theorem dd_Model_isPlan_98 : decode bb_Model_isPlan 98 = .ok (.i2l, 1) := by decide +kernel
theorem dd_Model_isPlan_99 : decode bb_Model_isPlan 99 = .ok (.aload_n 0, 1) := by decide +kernel
theorem dd_Model_isPlan_100 : decode bb_Model_isPlan 100 = .ok (.getfield 37, 3) := by decide +kernel
theorem dd_Model_isPlan_103 : decode bb_Model_isPlan 103 = .ok (.iload 4, 2) := by decide +kernel
theorem dd_Model_isPlan_105 : decode bb_Model_isPlan 105 = .ok (.laload, 1) := by decide +kernel
theorem dd_Model_isPlan_106 : decode bb_Model_isPlan 106 = .ok (.lmul, 1) := by decide +kernel
theorem dd_Model_isPlan_107 : decode bb_Model_isPlan 107 = .ok (.ladd, 1) := by decide +kernel
theorem dd_Model_isPlan_108 : decode bb_Model_isPlan 108 = .ok (.lstore_n 2, 1) := by decide +kernel
theorem dd_Model_isPlan_109 : decode bb_Model_isPlan 109 = .ok (.iinc 4 1, 3) := by decide +kernel
theorem dd_Model_isPlan_112 : decode bb_Model_isPlan 112 = .ok (.goto (-35), 3) := by decide +kernel
theorem dd_Model_isPlan_115 : decode bb_Model_isPlan 115 = .ok (.lload_n 2, 1) := by decide +kernel
theorem dd_Model_isPlan_116 : decode bb_Model_isPlan 116 = .ok (.aload_n 0, 1) := by decide +kernel
theorem dd_Model_isPlan_117 : decode bb_Model_isPlan 117 = .ok (.getfield 30, 3) := by decide +kernel
theorem dd_Model_isPlan_120 : decode bb_Model_isPlan 120 = .ok (.iload_n 1, 1) := by decide +kernel
theorem dd_Model_isPlan_121 : decode bb_Model_isPlan 121 = .ok (.iaload, 1) := by decide +kernel
theorem dd_Model_isPlan_122 : decode bb_Model_isPlan 122 = .ok (.i2l, 1) := by decide +kernel
theorem dd_Model_isPlan_123 : decode bb_Model_isPlan 123 = .ok (.aload_n 0, 1) := by decide +kernel
theorem dd_Model_isPlan_124 : decode bb_Model_isPlan 124 = .ok (.getfield 93, 3) := by decide +kernel
theorem dd_Model_isPlan_127 : decode bb_Model_isPlan 127 = .ok (.lmul, 1) := by decide +kernel
theorem dd_Model_isPlan_128 : decode bb_Model_isPlan 128 = .ok (.lcmp, 1) := by decide +kernel
theorem dd_Model_isPlan_129 : decode bb_Model_isPlan 129 = .ok (.ifCond .le 5, 3) := by decide +kernel
theorem dd_Model_isPlan_132 : decode bb_Model_isPlan 132 = .ok (.iconst 0, 1) := by decide +kernel
theorem dd_Model_isPlan_133 : decode bb_Model_isPlan 133 = .ok (.ireturn, 1) := by decide +kernel
theorem dd_Model_isPlan_134 : decode bb_Model_isPlan 134 = .ok (.iinc 1 1, 3) := by decide +kernel
theorem dd_Model_isPlan_137 : decode bb_Model_isPlan 137 = .ok (.goto (-73), 3) := by decide +kernel
theorem dd_Model_isPlan_140 : decode bb_Model_isPlan 140 = .ok (.iconst 1, 1) := by decide +kernel
theorem dd_Model_isPlan_141 : decode bb_Model_isPlan 141 = .ok (.ireturn, 1) := by decide +kernel
theorem dd_Model_take_0 : decode bb_Model_take 0 = .ok (.aload_n 0, 1) := by decide +kernel
theorem dd_Model_take_1 : decode bb_Model_take 1 = .ok (.invokevirtual 97, 3) := by decide +kernel
theorem dd_Model_take_4 : decode bb_Model_take 4 = .ok (.ifCond .ne 4, 3) := by decide +kernel
theorem dd_Model_take_7 : decode bb_Model_take 7 = .ok (.return_, 1) := by decide +kernel
theorem dd_Model_take_8 : decode bb_Model_take 8 = .ok (.lconst 0, 1) := by decide +kernel
theorem dd_Model_take_9 : decode bb_Model_take 9 = .ok (.lstore_n 1, 1) := by decide +kernel
theorem dd_Model_take_10 : decode bb_Model_take 10 = .ok (.iconst 0, 1) := by decide +kernel
theorem dd_Model_take_11 : decode bb_Model_take 11 = .ok (.istore_n 3, 1) := by decide +kernel
theorem dd_Model_take_12 : decode bb_Model_take 12 = .ok (.iload_n 3, 1) := by decide +kernel
theorem dd_Model_take_13 : decode bb_Model_take 13 = .ok (.aload_n 0, 1) := by decide +kernel
theorem dd_Model_take_14 : decode bb_Model_take 14 = .ok (.getfield 7, 3) := by decide +kernel
theorem dd_Model_take_17 : decode bb_Model_take 17 = .ok (.if_icmp .ge 26, 3) := by decide +kernel
theorem dd_Model_take_20 : decode bb_Model_take 20 = .ok (.lload_n 1, 1) := by decide +kernel
theorem dd_Model_take_21 : decode bb_Model_take 21 = .ok (.aload_n 0, 1) := by decide +kernel
theorem dd_Model_take_22 : decode bb_Model_take 22 = .ok (.getfield 24, 3) := by decide +kernel
theorem dd_Model_take_25 : decode bb_Model_take 25 = .ok (.iload_n 3, 1) := by decide +kernel
theorem dd_Model_take_26 : decode bb_Model_take 26 = .ok (.iaload, 1) := by decide +kernel
theorem dd_Model_take_27 : decode bb_Model_take 27 = .ok (.i2l, 1) := by decide +kernel
theorem dd_Model_take_28 : decode bb_Model_take 28 = .ok (.aload_n 0, 1) := by decide +kernel
theorem dd_Model_take_29 : decode bb_Model_take 29 = .ok (.getfield 37, 3) := by decide +kernel
theorem dd_Model_take_32 : decode bb_Model_take 32 = .ok (.iload_n 3, 1) := by decide +kernel
theorem dd_Model_take_33 : decode bb_Model_take 33 = .ok (.laload, 1) := by decide +kernel
theorem dd_Model_take_34 : decode bb_Model_take 34 = .ok (.lmul, 1) := by decide +kernel
theorem dd_Model_take_35 : decode bb_Model_take 35 = .ok (.ladd, 1) := by decide +kernel
theorem dd_Model_take_36 : decode bb_Model_take 36 = .ok (.lstore_n 1, 1) := by decide +kernel
theorem dd_Model_take_37 : decode bb_Model_take 37 = .ok (.iinc 3 1, 3) := by decide +kernel
theorem dd_Model_take_40 : decode bb_Model_take 40 = .ok (.goto (-28), 3) := by decide +kernel
theorem dd_Model_take_43 : decode bb_Model_take 43 = .ok (.lload_n 1, 1) := by decide +kernel
theorem dd_Model_take_44 : decode bb_Model_take 44 = .ok (.aload_n 0, 1) := by decide +kernel
theorem dd_Model_take_45 : decode bb_Model_take 45 = .ok (.getfield 101, 3) := by decide +kernel
theorem dd_Model_take_48 : decode bb_Model_take 48 = .ok (.lmul, 1) := by decide +kernel
theorem dd_Model_take_49 : decode bb_Model_take 49 = .ok (.lstore_n 3, 1) := by decide +kernel
theorem dd_Model_take_50 : decode bb_Model_take 50 = .ok (.aload_n 0, 1) := by decide +kernel
theorem dd_Model_take_51 : decode bb_Model_take 51 = .ok (.getfield 104, 3) := by decide +kernel
theorem dd_Model_take_54 : decode bb_Model_take 54 = .ok (.aload_n 0, 1) := by decide +kernel
theorem dd_Model_take_55 : decode bb_Model_take 55 = .ok (.getfield 93, 3) := by decide +kernel
theorem dd_Model_take_58 : decode bb_Model_take 58 = .ok (.lmul, 1) := by decide +kernel
theorem dd_Model_take_59 : decode bb_Model_take 59 = .ok (.lstore 5, 2) := by decide +kernel
theorem dd_Model_take_61 : decode bb_Model_take 61 = .ok (.aload_n 0, 1) := by decide +kernel
theorem dd_Model_take_62 : decode bb_Model_take 62 = .ok (.getfield 107, 3) := by decide +kernel
theorem dd_Model_take_65 : decode bb_Model_take 65 = .ok (.ifCond .eq 10, 3) := by decide +kernel
theorem dd_Model_take_68 : decode bb_Model_take 68 = .ok (.lload_n 3, 1) := by decide +kernel
theorem dd_Model_take_69 : decode bb_Model_take 69 = .ok (.lload 5, 2) := by decide +kernel
theorem dd_Model_take_71 : decode bb_Model_take 71 = .ok (.lcmp, 1) := by decide +kernel
theorem dd_Model_take_72 : decode bb_Model_take 72 = .ok (.ifCond .ge 7, 3) := by decide +kernel
theorem dd_Model_take_75 : decode bb_Model_take 75 = .ok (.iconst 1, 1) := by decide +kernel
theorem dd_Model_take_76 : decode bb_Model_take 76 = .ok (.goto 4, 3) := by decide +kernel
theorem dd_Model_take_79 : decode bb_Model_take 79 = .ok (.iconst 0, 1) := by decide +kernel
theorem dd_Model_take_80 : decode bb_Model_take 80 = .ok (.istore 7, 2) := by decide +kernel
theorem dd_Model_take_82 : decode bb_Model_take 82 = .ok (.aload_n 0, 1) := by decide +kernel
theorem dd_Model_take_83 : decode bb_Model_take 83 = .ok (.getfield 107, 3) := by decide +kernel
theorem dd_Model_take_86 : decode bb_Model_take 86 = .ok (.ifCond .eq 14, 3) := by decide +kernel
theorem dd_Model_take_89 : decode bb_Model_take 89 = .ok (.lload_n 3, 1) := by decide +kernel
theorem dd_Model_take_90 : decode bb_Model_take 90 = .ok (.lload 5, 2) := by decide +kernel
theorem dd_Model_take_92 : decode bb_Model_take 92 = .ok (.lcmp, 1) := by decide +kernel
theorem dd_Model_take_93 : decode bb_Model_take 93 = .ok (.ifCond .ne 7, 3) := by decide +kernel
theorem dd_Model_take_96 : decode bb_Model_take 96 = .ok (.iconst 1, 1) := by decide +kernel
theorem dd_Model_take_97 : decode bb_Model_take 97 = .ok (.goto 4, 3) := by decide +kernel
theorem dd_Model_take_100 : decode bb_Model_take 100 = .ok (.iconst 0, 1) := by decide +kernel
theorem dd_Model_take_101 : decode bb_Model_take 101 = .ok (.istore 8, 2) := by decide +kernel
theorem dd_Model_take_103 : decode bb_Model_take 103 = .ok (.iconst 0, 1) := by decide +kernel
theorem dd_Model_take_104 : decode bb_Model_take 104 = .ok (.istore 9, 2) := by decide +kernel
theorem dd_Model_take_106 : decode bb_Model_take 106 = .ok (.iload 9, 2) := by decide +kernel
theorem dd_Model_take_108 : decode bb_Model_take 108 = .ok (.aload_n 0, 1) := by decide +kernel
theorem dd_Model_take_109 : decode bb_Model_take 109 = .ok (.getfield 7, 3) := by decide +kernel
theorem dd_Model_take_112 : decode bb_Model_take 112 = .ok (.if_icmp .ge 72, 3) := by decide +kernel
theorem dd_Model_take_115 : decode bb_Model_take 115 = .ok (.iload 8, 2) := by decide +kernel
theorem dd_Model_take_117 : decode bb_Model_take 117 = .ok (.ifCond .eq 67, 3) := by decide +kernel
theorem dd_Model_take_120 : decode bb_Model_take 120 = .ok (.aload_n 0, 1) := by decide +kernel
theorem dd_Model_take_121 : decode bb_Model_take 121 = .ok (.getfield 37, 3) := by decide +kernel
theorem dd_Model_take_124 : decode bb_Model_take 124 = .ok (.iload 9, 2) := by decide +kernel
theorem dd_Model_take_126 : decode bb_Model_take 126 = .ok (.laload, 1) := by decide +kernel
theorem dd_Model_take_127 : decode bb_Model_take 127 = .ok (.aload_n 0, 1) := by decide +kernel
theorem dd_Model_take_128 : decode bb_Model_take 128 = .ok (.getfield 101, 3) := by decide +kernel
theorem dd_Model_take_131 : decode bb_Model_take 131 = .ok (.lmul, 1) := by decide +kernel
theorem dd_Model_take_132 : decode bb_Model_take 132 = .ok (.lstore 10, 2) := by decide +kernel
theorem dd_Model_take_134 : decode bb_Model_take 134 = .ok (.aload_n 0, 1) := by decide +kernel
theorem dd_Model_take_135 : decode bb_Model_take 135 = .ok (.getfield 33, 3) := by decide +kernel
theorem dd_Model_take_138 : decode bb_Model_take 138 = .ok (.iload 9, 2) := by decide +kernel
theorem dd_Model_take_140 : decode bb_Model_take 140 = .ok (.laload, 1) := by decide +kernel
theorem dd_Model_take_141 : decode bb_Model_take 141 = .ok (.aload_n 0, 1) := by decide +kernel
theorem dd_Model_take_142 : decode bb_Model_take 142 = .ok (.getfield 93, 3) := by decide +kernel
theorem dd_Model_take_145 : decode bb_Model_take 145 = .ok (.lmul, 1) := by decide +kernel
theorem dd_Model_take_146 : decode bb_Model_take 146 = .ok (.lstore 12, 2) := by decide +kernel
theorem dd_Model_take_148 : decode bb_Model_take 148 = .ok (.lload 10, 2) := by decide +kernel
theorem dd_Model_take_150 : decode bb_Model_take 150 = .ok (.lload 12, 2) := by decide +kernel
theorem dd_Model_take_152 : decode bb_Model_take 152 = .ok (.lcmp, 1) := by decide +kernel
theorem dd_Model_take_153 : decode bb_Model_take 153 = .ok (.ifCond .ge 7, 3) := by decide +kernel
theorem dd_Model_take_156 : decode bb_Model_take 156 = .ok (.iconst 1, 1) := by decide +kernel
theorem dd_Model_take_157 : decode bb_Model_take 157 = .ok (.goto 4, 3) := by decide +kernel
theorem dd_Model_take_160 : decode bb_Model_take 160 = .ok (.iconst 0, 1) := by decide +kernel
theorem dd_Model_take_161 : decode bb_Model_take 161 = .ok (.istore 7, 2) := by decide +kernel
theorem dd_Model_take_163 : decode bb_Model_take 163 = .ok (.lload 10, 2) := by decide +kernel
theorem dd_Model_take_165 : decode bb_Model_take 165 = .ok (.lload 12, 2) := by decide +kernel
theorem dd_Model_take_167 : decode bb_Model_take 167 = .ok (.lcmp, 1) := by decide +kernel
theorem dd_Model_take_168 : decode bb_Model_take 168 = .ok (.ifCond .ne 7, 3) := by decide +kernel
theorem dd_Model_take_171 : decode bb_Model_take 171 = .ok (.iconst 1, 1) := by decide +kernel
theorem dd_Model_take_172 : decode bb_Model_take 172 = .ok (.goto 4, 3) := by decide +kernel
theorem dd_Model_take_175 : decode bb_Model_take 175 = .ok (.iconst 0, 1) := by decide +kernel
theorem dd_Model_take_176 : decode bb_Model_take 176 = .ok (.istore 8, 2) := by decide +kernel
theorem dd_Model_take_178 : decode bb_Model_take 178 = .ok (.iinc 9 1, 3) := by decide +kernel
theorem dd_Model_take_181 : decode bb_Model_take 181 = .ok (.goto (-75), 3) := by decide +kernel
theorem dd_Model_take_184 : decode bb_Model_take 184 = .ok (.iload 7, 2) := by decide +kernel
theorem dd_Model_take_186 : decode bb_Model_take 186 = .ok (.ifCond .eq 53, 3) := by decide +kernel
theorem dd_Model_take_189 : decode bb_Model_take 189 = .ok (.aload_n 0, 1) := by decide +kernel
theorem dd_Model_take_190 : decode bb_Model_take 190 = .ok (.iconst 1, 1) := by decide +kernel
theorem dd_Model_take_191 : decode bb_Model_take 191 = .ok (.putfield 107, 3) := by decide +kernel
theorem dd_Model_take_194 : decode bb_Model_take 194 = .ok (.aload_n 0, 1) := by decide +kernel
theorem dd_Model_take_195 : decode bb_Model_take 195 = .ok (.lload_n 1, 1) := by decide +kernel
theorem dd_Model_take_196 : decode bb_Model_take 196 = .ok (.putfield 104, 3) := by decide +kernel
theorem dd_Model_take_199 : decode bb_Model_take 199 = .ok (.aload_n 0, 1) := by decide +kernel
theorem dd_Model_take_200 : decode bb_Model_take 200 = .ok (.aload_n 0, 1) := by decide +kernel
theorem dd_Model_take_201 : decode bb_Model_take 201 = .ok (.getfield 93, 3) := by decide +kernel
theorem dd_Model_take_204 : decode bb_Model_take 204 = .ok (.putfield 101, 3) := by decide +kernel
theorem dd_Model_take_207 : decode bb_Model_take 207 = .ok (.iconst 0, 1) := by decide +kernel
theorem dd_Model_take_208 : decode bb_Model_take 208 = .ok (.istore 9, 2) := by decide +kernel
theorem dd_Model_take_210 : decode bb_Model_take 210 = .ok (.iload 9, 2) := by decide +kernel
theorem dd_Model_take_212 : decode bb_Model_take 212 = .ok (.aload_n 0, 1) := by decide +kernel
theorem dd_Model_take_213 : decode bb_Model_take 213 = .ok (.getfield 7, 3) := by decide +kernel
theorem dd_Model_take_216 : decode bb_Model_take 216 = .ok (.if_icmp .ge 23, 3) := by decide +kernel
theorem dd_Model_take_219 : decode bb_Model_take 219 = .ok (.aload_n 0, 1) := by decide +kernel
theorem dd_Model_take_220 : decode bb_Model_take 220 = .ok (.getfield 33, 3) := by decide +kernel
theorem dd_Model_take_223 : decode bb_Model_take 223 = .ok (.iload 9, 2) := by decide +kernel
theorem dd_Model_take_225 : decode bb_Model_take 225 = .ok (.aload_n 0, 1) := by decide +kernel
theorem dd_Model_take_226 : decode bb_Model_take 226 = .ok (.getfield 37, 3) := by decide +kernel
theorem dd_Model_take_229 : decode bb_Model_take 229 = .ok (.iload 9, 2) := by decide +kernel
theorem dd_Model_take_231 : decode bb_Model_take 231 = .ok (.laload, 1) := by decide +kernel
theorem dd_Model_take_232 : decode bb_Model_take 232 = .ok (.lastore, 1) := by decide +kernel
theorem dd_Model_take_233 : decode bb_Model_take 233 = .ok (.iinc 9 1, 3) := by decide +kernel
theorem dd_Model_take_236 : decode bb_Model_take 236 = .ok (.goto (-26), 3) := by decide +kernel
theorem dd_Model_take_239 : decode bb_Model_take 239 = .ok (.return_, 1) := by decide +kernel
theorem dd_Model_determinant_0 : decode bb_Model_determinant 0 = .ok (.lconst 1, 1) := by decide +kernel
theorem dd_Model_determinant_1 : decode bb_Model_determinant 1 = .ok (.lstore_n 1, 1) := by decide +kernel
theorem dd_Model_determinant_2 : decode bb_Model_determinant 2 = .ok (.lconst 1, 1) := by decide +kernel
theorem dd_Model_determinant_3 : decode bb_Model_determinant 3 = .ok (.lstore_n 3, 1) := by decide +kernel
theorem dd_Model_determinant_4 : decode bb_Model_determinant 4 = .ok (.iconst 0, 1) := by decide +kernel
theorem dd_Model_determinant_5 : decode bb_Model_determinant 5 = .ok (.istore 5, 2) := by decide +kernel
theorem dd_Model_determinant_7 : decode bb_Model_determinant 7 = .ok (.iload 5, 2) := by decide +kernel
theorem dd_Model_determinant_9 : decode bb_Model_determinant 9 = .ok (.aload_n 0, 1) := by decide +kernel
theorem dd_Model_determinant_10 : decode bb_Model_determinant 10 = .ok (.getfield 111, 3) := by decide +kernel
theorem dd_Model_determinant_13 : decode bb_Model_determinant 13 = .ok (.iconst 1, 1) := by decide +kernel
theorem dd_Model_determinant_14 : decode bb_Model_determinant 14 = .ok (.isub, 1) := by decide +kernel
theorem dd_Model_determinant_15 : decode bb_Model_determinant 15 = .ok (.if_icmp .ge 267, 3) := by decide +kernel
theorem dd_Model_determinant_18 : decode bb_Model_determinant 18 = .ok (.iload 5, 2) := by decide +kernel
theorem dd_Model_determinant_20 : decode bb_Model_determinant 20 = .ok (.istore 6, 2) := by decide +kernel
theorem dd_Model_determinant_22 : decode bb_Model_determinant 22 = .ok (.iload 6, 2) := by decide +kernel
theorem dd_Model_determinant_24 : decode bb_Model_determinant 24 = .ok (.aload_n 0, 1) := by decide +kernel
theorem dd_Model_determinant_25 : decode bb_Model_determinant 25 = .ok (.getfield 111, 3) := by decide +kernel
theorem dd_Model_determinant_28 : decode bb_Model_determinant 28 = .ok (.if_icmp .ge 26, 3) := by decide +kernel
theorem dd_Model_determinant_31 : decode bb_Model_determinant 31 = .ok (.aload_n 0, 1) := by decide +kernel
theorem dd_Model_determinant_32 : decode bb_Model_determinant 32 = .ok (.getfield 46, 3) := by decide +kernel
theorem dd_Model_determinant_35 : decode bb_Model_determinant 35 = .ok (.iconst 4, 1) := by decide +kernel
theorem dd_Model_determinant_36 : decode bb_Model_determinant 36 = .ok (.iload 6, 2) := by decide +kernel
theorem dd_Model_determinant_38 : decode bb_Model_determinant 38 = .ok (.imul, 1) := by decide +kernel
theorem dd_Model_determinant_39 : decode bb_Model_determinant 39 = .ok (.iload 5, 2) := by decide +kernel
theorem dd_Model_determinant_41 : decode bb_Model_determinant 41 = .ok (.iadd, 1) := by decide +kernel
theorem dd_Model_determinant_42 : decode bb_Model_determinant 42 = .ok (.laload, 1) := by decide +kernel
theorem dd_Model_determinant_43 : decode bb_Model_determinant 43 = .ok (.lconst 0, 1) := by decide +kernel
theorem dd_Model_determinant_44 : decode bb_Model_determinant 44 = .ok (.lcmp, 1) := by decide +kernel
theorem dd_Model_determinant_45 : decode bb_Model_determinant 45 = .ok (.ifCond .ne 9, 3) := by decide +kernel
theorem dd_Model_determinant_48 : decode bb_Model_determinant 48 = .ok (.iinc 6 1, 3) := by decide +kernel
theorem dd_Model_determinant_51 : decode bb_Model_determinant 51 = .ok (.goto (-29), 3) := by decide +kernel
theorem dd_Model_determinant_54 : decode bb_Model_determinant 54 = .ok (.iload 6, 2) := by decide +kernel
theorem dd_Model_determinant_56 : decode bb_Model_determinant 56 = .ok (.aload_n 0, 1) := by decide +kernel
theorem dd_Model_determinant_57 : decode bb_Model_determinant 57 = .ok (.getfield 111, 3) := by decide +kernel
theorem dd_Model_determinant_60 : decode bb_Model_determinant 60 = .ok (.if_icmp .ne 5, 3) := by decide +kernel
theorem dd_Model_determinant_63 : decode bb_Model_determinant 63 = .ok (.lconst 0, 1) := by decide +kernel
theorem dd_Model_determinant_64 : decode bb_Model_determinant 64 = .ok (.lreturn, 1) := by decide +kernel
theorem dd_Model_determinant_65 : decode bb_Model_determinant 65 = .ok (.iconst 0, 1) := by decide +kernel
theorem dd_Model_determinant_66 : decode bb_Model_determinant 66 = .ok (.istore 7, 2) := by decide +kernel
theorem dd_Model_determinant_68 : decode bb_Model_determinant 68 = .ok (.iload 7, 2) := by decide +kernel
theorem dd_Model_determinant_70 : decode bb_Model_determinant 70 = .ok (.aload_n 0, 1) := by decide +kernel
theorem dd_Model_determinant_71 : decode bb_Model_determinant 71 = .ok (.getfield 111, 3) := by decide +kernel
theorem dd_Model_determinant_74 : decode bb_Model_determinant 74 = .ok (.if_icmp .ge 68, 3) := by decide +kernel
theorem dd_Model_determinant_77 : decode bb_Model_determinant 77 = .ok (.iload 6, 2) := by decide +kernel
theorem dd_Model_determinant_79 : decode bb_Model_determinant 79 = .ok (.iload 5, 2) := by decide +kernel
theorem dd_Model_determinant_81 : decode bb_Model_determinant 81 = .ok (.if_icmp .eq 61, 3) := by decide +kernel
theorem dd_Model_determinant_84 : decode bb_Model_determinant 84 = .ok (.aload_n 0, 1) := by decide +kernel
theorem dd_Model_determinant_85 : decode bb_Model_determinant 85 = .ok (.getfield 46, 3) := by decide +kernel
theorem dd_Model_determinant_88 : decode bb_Model_determinant 88 = .ok (.iconst 4, 1) := by decide +kernel
theorem dd_Model_determinant_89 : decode bb_Model_determinant 89 = .ok (.iload 6, 2) := by decide +kernel
theorem dd_Model_determinant_91 : decode bb_Model_determinant 91 = .ok (.imul, 1) := by decide +kernel
theorem dd_Model_determinant_92 : decode bb_Model_determinant 92 = .ok (.iload 7, 2) := by decide +kernel
theorem dd_Model_determinant_94 : decode bb_Model_determinant 94 = .ok (.iadd, 1) := by decide +kernel
theorem dd_Model_determinant_95 : decode bb_Model_determinant 95 = .ok (.laload, 1) := by decide +kernel
theorem dd_Model_determinant_96 : decode bb_Model_determinant 96 = .ok (.lstore 8, 2) := by decide +kernel
theorem dd_Model_determinant_98 : decode bb_Model_determinant 98 = .ok (.aload_n 0, 1) := by decide +kernel
theorem dd_Model_determinant_99 : decode bb_Model_determinant 99 = .ok (.getfield 46, 3) := by decide +kernel
theorem dd_Model_determinant_102 : decode bb_Model_determinant 102 = .ok (.iconst 4, 1) := by decide +kernel
theorem dd_Model_determinant_103 : decode bb_Model_determinant 103 = .ok (.iload 6, 2) := by decide +kernel
theorem dd_Model_determinant_105 : decode bb_Model_determinant 105 = .ok (.imul, 1) := by decide +kernel
theorem dd_Model_determinant_106 : decode bb_Model_determinant 106 = .ok (.iload 7, 2) := by decide +kernel
theorem dd_Model_determinant_108 : decode bb_Model_determinant 108 = .ok (.iadd, 1) := by decide +kernel
theorem dd_Model_determinant_109 : decode bb_Model_determinant 109 = .ok (.aload_n 0, 1) := by decide +kernel
theorem dd_Model_determinant_110 : decode bb_Model_determinant 110 = .ok (.getfield 46, 3) := by decide +kernel
theorem dd_Model_determinant_113 : decode bb_Model_determinant 113 = .ok (.iconst 4, 1) := by decide +kernel
theorem dd_Model_determinant_114 : decode bb_Model_determinant 114 = .ok (.iload 5, 2) := by decide +kernel
theorem dd_Model_determinant_116 : decode bb_Model_determinant 116 = .ok (.imul, 1) := by decide +kernel
theorem dd_Model_determinant_117 : decode bb_Model_determinant 117 = .ok (.iload 7, 2) := by decide +kernel
theorem dd_Model_determinant_119 : decode bb_Model_determinant 119 = .ok (.iadd, 1) := by decide +kernel
theorem dd_Model_determinant_120 : decode bb_Model_determinant 120 = .ok (.laload, 1) := by decide +kernel
theorem dd_Model_determinant_121 : decode bb_Model_determinant 121 = .ok (.lastore, 1) := by decide +kernel
theorem dd_Model_determinant_122 : decode bb_Model_determinant 122 = .ok (.aload_n 0, 1) := by decide +kernel
theorem dd_Model_determinant_123 : decode bb_Model_determinant 123 = .ok (.getfield 46, 3) := by decide +kernel
theorem dd_Model_determinant_126 : decode bb_Model_determinant 126 = .ok (.iconst 4, 1) := by decide +kernel
theorem dd_Model_determinant_127 : decode bb_Model_determinant 127 = .ok (.iload 5, 2) := by decide +kernel
theorem dd_Model_determinant_129 : decode bb_Model_determinant 129 = .ok (.imul, 1) := by decide +kernel
theorem dd_Model_determinant_130 : decode bb_Model_determinant 130 = .ok (.iload 7, 2) := by decide +kernel
theorem dd_Model_determinant_132 : decode bb_Model_determinant 132 = .ok (.iadd, 1) := by decide +kernel
theorem dd_Model_determinant_133 : decode bb_Model_determinant 133 = .ok (.lload 8, 2) := by decide +kernel
theorem dd_Model_determinant_135 : decode bb_Model_determinant 135 = .ok (.lastore, 1) := by decide +kernel
theorem dd_Model_determinant_136 : decode bb_Model_determinant 136 = .ok (.iinc 7 1, 3) := by decide +kernel
theorem dd_Model_determinant_139 : decode bb_Model_determinant 139 = .ok (.goto (-71), 3) := by decide +kernel
theorem dd_Model_determinant_142 : decode bb_Model_determinant 142 = .ok (.iload 6, 2) := by decide +kernel
theorem dd_Model_determinant_144 : decode bb_Model_determinant 144 = .ok (.iload 5, 2) := by decide +kernel
theorem dd_Model_determinant_146 : decode bb_Model_determinant 146 = .ok (.if_icmp .eq 8, 3) := by decide +kernel
theorem dd_Model_determinant_149 : decode bb_Model_determinant 149 = .ok (.lload_n 1, 1) := by decide +kernel
theorem dd_Model_determinant_150 : decode bb_Model_determinant 150 = .ok (.lneg, 1) := by decide +kernel
theorem dd_Model_determinant_151 : decode bb_Model_determinant 151 = .ok (.goto 4, 3) := by decide +kernel
theorem dd_Model_determinant_154 : decode bb_Model_determinant 154 = .ok (.lload_n 1, 1) := by decide +kernel
theorem dd_Model_determinant_155 : decode bb_Model_determinant 155 = .ok (.lstore_n 1, 1) := by decide +kernel
theorem dd_Model_determinant_156 : decode bb_Model_determinant 156 = .ok (.iload 5, 2) := by decide +kernel
theorem dd_Model_determinant_158 : decode bb_Model_determinant 158 = .ok (.iconst 1, 1) := by decide +kernel
theorem dd_Model_determinant_159 : decode bb_Model_determinant 159 = .ok (.iadd, 1) := by decide +kernel
theorem dd_Model_determinant_160 : decode bb_Model_determinant 160 = .ok (.istore 7, 2) := by decide +kernel
theorem dd_Model_determinant_162 : decode bb_Model_determinant 162 = .ok (.iload 7, 2) := by decide +kernel
theorem dd_Model_determinant_164 : decode bb_Model_determinant 164 = .ok (.aload_n 0, 1) := by decide +kernel
theorem dd_Model_determinant_165 : decode bb_Model_determinant 165 = .ok (.getfield 111, 3) := by decide +kernel
theorem dd_Model_determinant_168 : decode bb_Model_determinant 168 = .ok (.if_icmp .ge 95, 3) := by decide +kernel
theorem dd_Model_determinant_171 : decode bb_Model_determinant 171 = .ok (.iload 5, 2) := by decide +kernel
theorem dd_Model_determinant_173 : decode bb_Model_determinant 173 = .ok (.iconst 1, 1) := by decide +kernel
theorem dd_Model_determinant_174 : decode bb_Model_determinant 174 = .ok (.iadd, 1) := by decide +kernel
theorem dd_Model_determinant_175 : decode bb_Model_determinant 175 = .ok (.istore 8, 2) := by decide +kernel
theorem dd_Model_determinant_177 : decode bb_Model_determinant 177 = .ok (.iload 8, 2) := by decide +kernel
theorem dd_Model_determinant_179 : decode bb_Model_determinant 179 = .ok (.aload_n 0, 1) := by decide +kernel
theorem dd_Model_determinant_180 : decode bb_Model_determinant 180 = .ok (.getfield 111, 3) := by decide +kernel
theorem dd_Model_determinant_183 : decode bb_Model_determinant 183 = .ok (.if_icmp .ge 74, 3) := by decide +kernel
theorem dd_Model_determinant_186 : decode bb_Model_determinant 186 = .ok (.aload_n 0, 1) := by decide +kernel
theorem dd_Model_determinant_187 : decode bb_Model_determinant 187 = .ok (.getfield 46, 3) := by decide +kernel
theorem dd_Model_determinant_190 : decode bb_Model_determinant 190 = .ok (.iconst 4, 1) := by decide +kernel
theorem dd_Model_determinant_191 : decode bb_Model_determinant 191 = .ok (.iload 7, 2) := by decide +kernel
theorem dd_Model_determinant_193 : decode bb_Model_determinant 193 = .ok (.imul, 1) := by decide +kernel
theorem dd_Model_determinant_194 : decode bb_Model_determinant 194 = .ok (.iload 8, 2) := by decide +kernel
theorem dd_Model_determinant_196 : decode bb_Model_determinant 196 = .ok (.iadd, 1) := by decide +kernel
theorem dd_Model_determinant_197 : decode bb_Model_determinant 197 = .ok (.aload_n 0, 1) := by decide +kernel
theorem dd_Model_determinant_198 : decode bb_Model_determinant 198 = .ok (.getfield 46, 3) := by decide +kernel
theorem dd_Model_determinant_201 : decode bb_Model_determinant 201 = .ok (.iconst 4, 1) := by decide +kernel
theorem dd_Model_determinant_202 : decode bb_Model_determinant 202 = .ok (.iload 7, 2) := by decide +kernel
theorem dd_Model_determinant_204 : decode bb_Model_determinant 204 = .ok (.imul, 1) := by decide +kernel
theorem dd_Model_determinant_205 : decode bb_Model_determinant 205 = .ok (.iload 8, 2) := by decide +kernel
theorem dd_Model_determinant_207 : decode bb_Model_determinant 207 = .ok (.iadd, 1) := by decide +kernel
theorem dd_Model_determinant_208 : decode bb_Model_determinant 208 = .ok (.laload, 1) := by decide +kernel
theorem dd_Model_determinant_209 : decode bb_Model_determinant 209 = .ok (.aload_n 0, 1) := by decide +kernel
theorem dd_Model_determinant_210 : decode bb_Model_determinant 210 = .ok (.getfield 46, 3) := by decide +kernel
theorem dd_Model_determinant_213 : decode bb_Model_determinant 213 = .ok (.iconst 4, 1) := by decide +kernel
theorem dd_Model_determinant_214 : decode bb_Model_determinant 214 = .ok (.iload 5, 2) := by decide +kernel
theorem dd_Model_determinant_216 : decode bb_Model_determinant 216 = .ok (.imul, 1) := by decide +kernel
theorem dd_Model_determinant_217 : decode bb_Model_determinant 217 = .ok (.iload 5, 2) := by decide +kernel
theorem dd_Model_determinant_219 : decode bb_Model_determinant 219 = .ok (.iadd, 1) := by decide +kernel
theorem dd_Model_determinant_220 : decode bb_Model_determinant 220 = .ok (.laload, 1) := by decide +kernel
theorem dd_Model_determinant_221 : decode bb_Model_determinant 221 = .ok (.lmul, 1) := by decide +kernel
theorem dd_Model_determinant_222 : decode bb_Model_determinant 222 = .ok (.aload_n 0, 1) := by decide +kernel
theorem dd_Model_determinant_223 : decode bb_Model_determinant 223 = .ok (.getfield 46, 3) := by decide +kernel
theorem dd_Model_determinant_226 : decode bb_Model_determinant 226 = .ok (.iconst 4, 1) := by decide +kernel
theorem dd_Model_determinant_227 : decode bb_Model_determinant 227 = .ok (.iload 7, 2) := by decide +kernel
theorem dd_Model_determinant_229 : decode bb_Model_determinant 229 = .ok (.imul, 1) := by decide +kernel
