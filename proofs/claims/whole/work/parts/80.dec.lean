theorem dd_Proof_init_0 : decode bb_Proof_init 0 = .ok (.aload_n 0, 1) := by decide +kernel
theorem dd_Proof_init_1 : decode bb_Proof_init 1 = .ok (.invokespecial 5, 3) := by decide +kernel
theorem dd_Proof_init_4 : decode bb_Proof_init 4 = .ok (.aload_n 0, 1) := by decide +kernel
theorem dd_Proof_init_5 : decode bb_Proof_init 5 = .ok (.iconst 0, 1) := by decide +kernel
theorem dd_Proof_init_6 : decode bb_Proof_init 6 = .ok (.putfield 11, 3) := by decide +kernel
theorem dd_Proof_init_9 : decode bb_Proof_init 9 = .ok (.aload_n 0, 1) := by decide +kernel
theorem dd_Proof_init_10 : decode bb_Proof_init 10 = .ok (.bipush 7, 2) := by decide +kernel
theorem dd_Proof_init_12 : decode bb_Proof_init 12 = .ok (.newarray .int, 2) := by decide +kernel
theorem dd_Proof_init_14 : decode bb_Proof_init 14 = .ok (.putfield 17, 3) := by decide +kernel
theorem dd_Proof_init_17 : decode bb_Proof_init 17 = .ok (.aload_n 0, 1) := by decide +kernel
theorem dd_Proof_init_18 : decode bb_Proof_init 18 = .ok (.sipush 2772, 3) := by decide +kernel
theorem dd_Proof_init_21 : decode bb_Proof_init 21 = .ok (.newarray .long, 2) := by decide +kernel
theorem dd_Proof_init_23 : decode bb_Proof_init 23 = .ok (.putfield 23, 3) := by decide +kernel
theorem dd_Proof_init_26 : decode bb_Proof_init 26 = .ok (.return_, 1) := by decide +kernel
theorem dd_Proof_gather_0 : decode bb_Proof_gather 0 = .ok (.aload_n 0, 1) := by decide +kernel
theorem dd_Proof_gather_1 : decode bb_Proof_gather 1 = .ok (.iconst 0, 1) := by decide +kernel
theorem dd_Proof_gather_2 : decode bb_Proof_gather 2 = .ok (.putfield 11, 3) := by decide +kernel
theorem dd_Proof_gather_5 : decode bb_Proof_gather 5 = .ok (.aload_n 1, 1) := by decide +kernel
theorem dd_Proof_gather_6 : decode bb_Proof_gather 6 = .ok (.invokestatic 27, 3) := by decide +kernel
theorem dd_Proof_gather_9 : decode bb_Proof_gather 9 = .ok (.istore 4, 2) := by decide +kernel
theorem dd_Proof_gather_11 : decode bb_Proof_gather 11 = .ok (.iload_n 3, 1) := by decide +kernel
theorem dd_Proof_gather_12 : decode bb_Proof_gather 12 = .ok (.ifCond .ne 10, 3) := by decide +kernel
theorem dd_Proof_gather_15 : decode bb_Proof_gather 15 = .ok (.iload 4, 2) := by decide +kernel
theorem dd_Proof_gather_17 : decode bb_Proof_gather 17 = .ok (.bipush 64, 2) := by decide +kernel
theorem dd_Proof_gather_19 : decode bb_Proof_gather 19 = .ok (.ixor, 1) := by decide +kernel
theorem dd_Proof_gather_20 : decode bb_Proof_gather 20 = .ok (.istore 4, 2) := by decide +kernel
theorem dd_Proof_gather_22 : decode bb_Proof_gather 22 = .ok (.iconst 0, 1) := by decide +kernel
theorem dd_Proof_gather_23 : decode bb_Proof_gather 23 = .ok (.istore 5, 2) := by decide +kernel
theorem dd_Proof_gather_25 : decode bb_Proof_gather 25 = .ok (.iload 5, 2) := by decide +kernel
theorem dd_Proof_gather_27 : decode bb_Proof_gather 27 = .ok (.iconst 1, 1) := by decide +kernel
theorem dd_Proof_gather_28 : decode bb_Proof_gather 28 = .ok (.aload_n 1, 1) := by decide +kernel
theorem dd_Proof_gather_29 : decode bb_Proof_gather 29 = .ok (.getfield 33, 3) := by decide +kernel
theorem dd_Proof_gather_32 : decode bb_Proof_gather 32 = .ok (.ishl, 1) := by decide +kernel
theorem dd_Proof_gather_33 : decode bb_Proof_gather 33 = .ok (.if_icmp .ge 107, 3) := by decide +kernel
theorem dd_Proof_gather_36 : decode bb_Proof_gather 36 = .ok (.iload 5, 2) := by decide +kernel
theorem dd_Proof_gather_38 : decode bb_Proof_gather 38 = .ok (.invokestatic 36, 3) := by decide +kernel
theorem dd_Proof_gather_41 : decode bb_Proof_gather 41 = .ok (.iconst 1, 1) := by decide +kernel
theorem dd_Proof_gather_42 : decode bb_Proof_gather 42 = .ok (.iadd, 1) := by decide +kernel
theorem dd_Proof_gather_43 : decode bb_Proof_gather 43 = .ok (.istore 6, 2) := by decide +kernel
theorem dd_Proof_gather_45 : decode bb_Proof_gather 45 = .ok (.iconst 1, 1) := by decide +kernel
theorem dd_Proof_gather_46 : decode bb_Proof_gather 46 = .ok (.istore 7, 2) := by decide +kernel
theorem dd_Proof_gather_48 : decode bb_Proof_gather 48 = .ok (.iload 7, 2) := by decide +kernel
theorem dd_Proof_gather_50 : decode bb_Proof_gather 50 = .ok (.sipush 128, 3) := by decide +kernel
theorem dd_Proof_gather_53 : decode bb_Proof_gather 53 = .ok (.if_icmp .ge 81, 3) := by decide +kernel
theorem dd_Proof_gather_56 : decode bb_Proof_gather 56 = .ok (.iload 7, 2) := by decide +kernel
theorem dd_Proof_gather_58 : decode bb_Proof_gather 58 = .ok (.iload 4, 2) := by decide +kernel
theorem dd_Proof_gather_60 : decode bb_Proof_gather 60 = .ok (.iconst (-1), 1) := by decide +kernel
theorem dd_Proof_gather_61 : decode bb_Proof_gather 61 = .ok (.ixor, 1) := by decide +kernel
theorem dd_Proof_gather_62 : decode bb_Proof_gather 62 = .ok (.iand, 1) := by decide +kernel
theorem dd_Proof_gather_63 : decode bb_Proof_gather 63 = .ok (.ifCond .ne 65, 3) := by decide +kernel
theorem dd_Proof_gather_66 : decode bb_Proof_gather 66 = .ok (.iload 7, 2) := by decide +kernel
theorem dd_Proof_gather_68 : decode bb_Proof_gather 68 = .ok (.invokestatic 36, 3) := by decide +kernel
theorem dd_Proof_gather_71 : decode bb_Proof_gather 71 = .ok (.iload 6, 2) := by decide +kernel
theorem dd_Proof_gather_73 : decode bb_Proof_gather 73 = .ok (.if_icmp .ne 55, 3) := by decide +kernel
theorem dd_Proof_gather_76 : decode bb_Proof_gather 76 = .ok (.aload_n 0, 1) := by decide +kernel
theorem dd_Proof_gather_77 : decode bb_Proof_gather 77 = .ok (.aload_n 2, 1) := by decide +kernel
theorem dd_Proof_gather_78 : decode bb_Proof_gather 78 = .ok (.iload 5, 2) := by decide +kernel
theorem dd_Proof_gather_80 : decode bb_Proof_gather 80 = .ok (.iload 7, 2) := by decide +kernel
theorem dd_Proof_gather_82 : decode bb_Proof_gather 82 = .ok (.invokevirtual 42, 3) := by decide +kernel
theorem dd_Proof_gather_85 : decode bb_Proof_gather 85 = .ok (.ifCond .eq 43, 3) := by decide +kernel
theorem dd_Proof_gather_88 : decode bb_Proof_gather 88 = .ok (.aload_n 0, 1) := by decide +kernel
theorem dd_Proof_gather_89 : decode bb_Proof_gather 89 = .ok (.getfield 11, 3) := by decide +kernel
theorem dd_Proof_gather_92 : decode bb_Proof_gather 92 = .ok (.sipush 462, 3) := by decide +kernel
theorem dd_Proof_gather_95 : decode bb_Proof_gather 95 = .ok (.if_icmp .ge 33, 3) := by decide +kernel
theorem dd_Proof_gather_98 : decode bb_Proof_gather 98 = .ok (.aload_n 1, 1) := by decide +kernel
theorem dd_Proof_gather_99 : decode bb_Proof_gather 99 = .ok (.aload_n 0, 1) := by decide +kernel
theorem dd_Proof_gather_100 : decode bb_Proof_gather 100 = .ok (.getfield 17, 3) := by decide +kernel
theorem dd_Proof_gather_103 : decode bb_Proof_gather 103 = .ok (.iconst 0, 1) := by decide +kernel
theorem dd_Proof_gather_104 : decode bb_Proof_gather 104 = .ok (.aload_n 0, 1) := by decide +kernel
theorem dd_Proof_gather_105 : decode bb_Proof_gather 105 = .ok (.getfield 23, 3) := by decide +kernel
theorem dd_Proof_gather_108 : decode bb_Proof_gather 108 = .ok (.aload_n 0, 1) := by decide +kernel
theorem dd_Proof_gather_109 : decode bb_Proof_gather 109 = .ok (.getfield 11, 3) := by decide +kernel
theorem dd_Proof_gather_112 : decode bb_Proof_gather 112 = .ok (.bipush 6, 2) := by decide +kernel
theorem dd_Proof_gather_114 : decode bb_Proof_gather 114 = .ok (.imul, 1) := by decide +kernel
theorem dd_Proof_gather_115 : decode bb_Proof_gather 115 = .ok (.invokestatic 46, 3) := by decide +kernel
theorem dd_Proof_gather_118 : decode bb_Proof_gather 118 = .ok (.aload_n 0, 1) := by decide +kernel
theorem dd_Proof_gather_119 : decode bb_Proof_gather 119 = .ok (.dup, 1) := by decide +kernel
theorem dd_Proof_gather_120 : decode bb_Proof_gather 120 = .ok (.getfield 11, 3) := by decide +kernel
theorem dd_Proof_gather_123 : decode bb_Proof_gather 123 = .ok (.iconst 1, 1) := by decide +kernel
theorem dd_Proof_gather_124 : decode bb_Proof_gather 124 = .ok (.iadd, 1) := by decide +kernel
theorem dd_Proof_gather_125 : decode bb_Proof_gather 125 = .ok (.putfield 11, 3) := by decide +kernel
theorem dd_Proof_gather_128 : decode bb_Proof_gather 128 = .ok (.iinc 7 1, 3) := by decide +kernel
theorem dd_Proof_gather_131 : decode bb_Proof_gather 131 = .ok (.goto (-83), 3) := by decide +kernel
theorem dd_Proof_gather_134 : decode bb_Proof_gather 134 = .ok (.iinc 5 1, 3) := by decide +kernel
theorem dd_Proof_gather_137 : decode bb_Proof_gather 137 = .ok (.goto (-112), 3) := by decide +kernel
theorem dd_Proof_gather_140 : decode bb_Proof_gather 140 = .ok (.return_, 1) := by decide +kernel
theorem dd_Proof_setNumbers_0 : decode bb_Proof_setNumbers 0 = .ok (.iconst 1, 1) := by decide +kernel
theorem dd_Proof_setNumbers_1 : decode bb_Proof_setNumbers 1 = .ok (.istore 4, 2) := by decide +kernel
theorem dd_Proof_setNumbers_3 : decode bb_Proof_setNumbers 3 = .ok (.iconst 0, 1) := by decide +kernel
theorem dd_Proof_setNumbers_4 : decode bb_Proof_setNumbers 4 = .ok (.istore 5, 2) := by decide +kernel
theorem dd_Proof_setNumbers_6 : decode bb_Proof_setNumbers 6 = .ok (.iconst 0, 1) := by decide +kernel
theorem dd_Proof_setNumbers_7 : decode bb_Proof_setNumbers 7 = .ok (.istore 6, 2) := by decide +kernel
theorem dd_Proof_setNumbers_9 : decode bb_Proof_setNumbers 9 = .ok (.iconst 0, 1) := by decide +kernel
theorem dd_Proof_setNumbers_10 : decode bb_Proof_setNumbers 10 = .ok (.istore 7, 2) := by decide +kernel
theorem dd_Proof_setNumbers_12 : decode bb_Proof_setNumbers 12 = .ok (.iload 7, 2) := by decide +kernel
theorem dd_Proof_setNumbers_14 : decode bb_Proof_setNumbers 14 = .ok (.bipush 7, 2) := by decide +kernel
theorem dd_Proof_setNumbers_16 : decode bb_Proof_setNumbers 16 = .ok (.if_icmp .ge 82, 3) := by decide +kernel
theorem dd_Proof_setNumbers_19 : decode bb_Proof_setNumbers 19 = .ok (.iconst 0, 1) := by decide +kernel
theorem dd_Proof_setNumbers_20 : decode bb_Proof_setNumbers 20 = .ok (.istore 8, 2) := by decide +kernel
theorem dd_Proof_setNumbers_22 : decode bb_Proof_setNumbers 22 = .ok (.iload_n 3, 1) := by decide +kernel
theorem dd_Proof_setNumbers_23 : decode bb_Proof_setNumbers 23 = .ok (.iload 7, 2) := by decide +kernel
theorem dd_Proof_setNumbers_25 : decode bb_Proof_setNumbers 25 = .ok (.ishr, 1) := by decide +kernel
theorem dd_Proof_setNumbers_26 : decode bb_Proof_setNumbers 26 = .ok (.iconst 1, 1) := by decide +kernel
theorem dd_Proof_setNumbers_27 : decode bb_Proof_setNumbers 27 = .ok (.iand, 1) := by decide +kernel
theorem dd_Proof_setNumbers_28 : decode bb_Proof_setNumbers 28 = .ok (.ifCond .eq 24, 3) := by decide +kernel
theorem dd_Proof_setNumbers_31 : decode bb_Proof_setNumbers 31 = .ok (.iload 4, 2) := by decide +kernel
theorem dd_Proof_setNumbers_33 : decode bb_Proof_setNumbers 33 = .ok (.aload_n 1, 1) := by decide +kernel
theorem dd_Proof_setNumbers_34 : decode bb_Proof_setNumbers 34 = .ok (.iload_n 2, 1) := by decide +kernel
theorem dd_Proof_setNumbers_35 : decode bb_Proof_setNumbers 35 = .ok (.iload_n 3, 1) := by decide +kernel
theorem dd_Proof_setNumbers_36 : decode bb_Proof_setNumbers 36 = .ok (.iconst 1, 1) := by decide +kernel
theorem dd_Proof_setNumbers_37 : decode bb_Proof_setNumbers 37 = .ok (.iload 7, 2) := by decide +kernel
theorem dd_Proof_setNumbers_39 : decode bb_Proof_setNumbers 39 = .ok (.ishl, 1) := by decide +kernel
theorem dd_Proof_setNumbers_40 : decode bb_Proof_setNumbers 40 = .ok (.ixor, 1) := by decide +kernel
theorem dd_Proof_setNumbers_41 : decode bb_Proof_setNumbers 41 = .ok (.invokevirtual 50, 3) := by decide +kernel
theorem dd_Proof_setNumbers_44 : decode bb_Proof_setNumbers 44 = .ok (.imul, 1) := by decide +kernel
theorem dd_Proof_setNumbers_45 : decode bb_Proof_setNumbers 45 = .ok (.istore 8, 2) := by decide +kernel
theorem dd_Proof_setNumbers_47 : decode bb_Proof_setNumbers 47 = .ok (.iload 4, 2) := by decide +kernel
theorem dd_Proof_setNumbers_49 : decode bb_Proof_setNumbers 49 = .ok (.ineg, 1) := by decide +kernel
theorem dd_Proof_setNumbers_50 : decode bb_Proof_setNumbers 50 = .ok (.istore 4, 2) := by decide +kernel
theorem dd_Proof_setNumbers_52 : decode bb_Proof_setNumbers 52 = .ok (.aload_n 0, 1) := by decide +kernel
theorem dd_Proof_setNumbers_53 : decode bb_Proof_setNumbers 53 = .ok (.getfield 17, 3) := by decide +kernel
theorem dd_Proof_setNumbers_56 : decode bb_Proof_setNumbers 56 = .ok (.iload 7, 2) := by decide +kernel
theorem dd_Proof_setNumbers_58 : decode bb_Proof_setNumbers 58 = .ok (.bipush 6, 2) := by decide +kernel
theorem dd_Proof_setNumbers_60 : decode bb_Proof_setNumbers 60 = .ok (.if_icmp .ne 7, 3) := by decide +kernel
theorem dd_Proof_setNumbers_63 : decode bb_Proof_setNumbers 63 = .ok (.iconst 0, 1) := by decide +kernel
theorem dd_Proof_setNumbers_64 : decode bb_Proof_setNumbers 64 = .ok (.goto 7, 3) := by decide +kernel
theorem dd_Proof_setNumbers_67 : decode bb_Proof_setNumbers 67 = .ok (.iload 7, 2) := by decide +kernel
theorem dd_Proof_setNumbers_69 : decode bb_Proof_setNumbers 69 = .ok (.iconst 1, 1) := by decide +kernel
theorem dd_Proof_setNumbers_70 : decode bb_Proof_setNumbers 70 = .ok (.iadd, 1) := by decide +kernel
theorem dd_Proof_setNumbers_71 : decode bb_Proof_setNumbers 71 = .ok (.iload 8, 2) := by decide +kernel
theorem dd_Proof_setNumbers_73 : decode bb_Proof_setNumbers 73 = .ok (.iastore, 1) := by decide +kernel
theorem dd_Proof_setNumbers_74 : decode bb_Proof_setNumbers 74 = .ok (.iload 5, 2) := by decide +kernel
theorem dd_Proof_setNumbers_76 : decode bb_Proof_setNumbers 76 = .ok (.iload 8, 2) := by decide +kernel
theorem dd_Proof_setNumbers_78 : decode bb_Proof_setNumbers 78 = .ok (.invokestatic 54, 3) := by decide +kernel
theorem dd_Proof_setNumbers_81 : decode bb_Proof_setNumbers 81 = .ok (.istore 5, 2) := by decide +kernel
theorem dd_Proof_setNumbers_83 : decode bb_Proof_setNumbers 83 = .ok (.iload 6, 2) := by decide +kernel
theorem dd_Proof_setNumbers_85 : decode bb_Proof_setNumbers 85 = .ok (.iload 8, 2) := by decide +kernel
theorem dd_Proof_setNumbers_87 : decode bb_Proof_setNumbers 87 = .ok (.invokestatic 59, 3) := by decide +kernel
theorem dd_Proof_setNumbers_90 : decode bb_Proof_setNumbers 90 = .ok (.istore 6, 2) := by decide +kernel
theorem dd_Proof_setNumbers_92 : decode bb_Proof_setNumbers 92 = .ok (.iinc 7 1, 3) := by decide +kernel
theorem dd_Proof_setNumbers_95 : decode bb_Proof_setNumbers 95 = .ok (.goto (-83), 3) := by decide +kernel
theorem dd_Proof_setNumbers_98 : decode bb_Proof_setNumbers 98 = .ok (.iload 6, 2) := by decide +kernel
theorem dd_Proof_setNumbers_100 : decode bb_Proof_setNumbers 100 = .ok (.ifCond .ne 7, 3) := by decide +kernel
theorem dd_Proof_setNumbers_103 : decode bb_Proof_setNumbers 103 = .ok (.aload_n 0, 1) := by decide +kernel
theorem dd_Proof_setNumbers_104 : decode bb_Proof_setNumbers 104 = .ok (.invokevirtual 62, 3) := by decide +kernel
theorem dd_Proof_setNumbers_107 : decode bb_Proof_setNumbers 107 = .ok (.iload 5, 2) := by decide +kernel
theorem dd_Proof_setNumbers_109 : decode bb_Proof_setNumbers 109 = .ok (.ifCond .ge 16, 3) := by decide +kernel
theorem dd_Proof_setNumbers_112 : decode bb_Proof_setNumbers 112 = .ok (.iload 6, 2) := by decide +kernel
theorem dd_Proof_setNumbers_114 : decode bb_Proof_setNumbers 114 = .ok (.ifCond .ne 7, 3) := by decide +kernel
theorem dd_Proof_setNumbers_117 : decode bb_Proof_setNumbers 117 = .ok (.iconst 1, 1) := by decide +kernel
theorem dd_Proof_setNumbers_118 : decode bb_Proof_setNumbers 118 = .ok (.goto 17, 3) := by decide +kernel
theorem dd_Proof_setNumbers_121 : decode bb_Proof_setNumbers 121 = .ok (.iconst 0, 1) := by decide +kernel
theorem dd_Proof_setNumbers_122 : decode bb_Proof_setNumbers 122 = .ok (.goto 13, 3) := by decide +kernel
theorem dd_Proof_setNumbers_125 : decode bb_Proof_setNumbers 125 = .ok (.iload 6, 2) := by decide +kernel
theorem dd_Proof_setNumbers_127 : decode bb_Proof_setNumbers 127 = .ok (.ifCond .le 7, 3) := by decide +kernel
theorem dd_Proof_setNumbers_130 : decode bb_Proof_setNumbers 130 = .ok (.iconst 1, 1) := by decide +kernel
theorem dd_Proof_setNumbers_131 : decode bb_Proof_setNumbers 131 = .ok (.goto 4, 3) := by decide +kernel
theorem dd_Proof_setNumbers_134 : decode bb_Proof_setNumbers 134 = .ok (.iconst 0, 1) := by decide +kernel
theorem dd_Proof_setNumbers_135 : decode bb_Proof_setNumbers 135 = .ok (.ireturn, 1) := by decide +kernel
theorem dd_Proof_turnNumbers_0 : decode bb_Proof_turnNumbers 0 = .ok (.iconst 0, 1) := by decide +kernel
theorem dd_Proof_turnNumbers_1 : decode bb_Proof_turnNumbers 1 = .ok (.istore_n 1, 1) := by decide +kernel
theorem dd_Proof_turnNumbers_2 : decode bb_Proof_turnNumbers 2 = .ok (.iload_n 1, 1) := by decide +kernel
theorem dd_Proof_turnNumbers_3 : decode bb_Proof_turnNumbers 3 = .ok (.bipush 7, 2) := by decide +kernel
theorem dd_Proof_turnNumbers_5 : decode bb_Proof_turnNumbers 5 = .ok (.if_icmp .ge 22, 3) := by decide +kernel
theorem dd_Proof_turnNumbers_8 : decode bb_Proof_turnNumbers 8 = .ok (.aload_n 0, 1) := by decide +kernel
theorem dd_Proof_turnNumbers_9 : decode bb_Proof_turnNumbers 9 = .ok (.getfield 17, 3) := by decide +kernel
theorem dd_Proof_turnNumbers_12 : decode bb_Proof_turnNumbers 12 = .ok (.iload_n 1, 1) := by decide +kernel
theorem dd_Proof_turnNumbers_13 : decode bb_Proof_turnNumbers 13 = .ok (.aload_n 0, 1) := by decide +kernel
theorem dd_Proof_turnNumbers_14 : decode bb_Proof_turnNumbers 14 = .ok (.getfield 17, 3) := by decide +kernel
theorem dd_Proof_turnNumbers_17 : decode bb_Proof_turnNumbers 17 = .ok (.iload_n 1, 1) := by decide +kernel
theorem dd_Proof_turnNumbers_18 : decode bb_Proof_turnNumbers 18 = .ok (.iaload, 1) := by decide +kernel
theorem dd_Proof_turnNumbers_19 : decode bb_Proof_turnNumbers 19 = .ok (.ineg, 1) := by decide +kernel
theorem dd_Proof_turnNumbers_20 : decode bb_Proof_turnNumbers 20 = .ok (.iastore, 1) := by decide +kernel
theorem dd_Proof_turnNumbers_21 : decode bb_Proof_turnNumbers 21 = .ok (.iinc 1 1, 3) := by decide +kernel
theorem dd_Proof_turnNumbers_24 : decode bb_Proof_turnNumbers 24 = .ok (.goto (-22), 3) := by decide +kernel
theorem dd_Proof_turnNumbers_27 : decode bb_Proof_turnNumbers 27 = .ok (.return_, 1) := by decide +kernel
theorem dd_Proof_holds_0 : decode bb_Proof_holds 0 = .ok (.aload_n 0, 1) := by decide +kernel
theorem dd_Proof_holds_1 : decode bb_Proof_holds 1 = .ok (.aload_n 1, 1) := by decide +kernel
theorem dd_Proof_holds_2 : decode bb_Proof_holds 2 = .ok (.aload_n 2, 1) := by decide +kernel
theorem dd_Proof_holds_3 : decode bb_Proof_holds 3 = .ok (.iconst 0, 1) := by decide +kernel
theorem dd_Proof_holds_4 : decode bb_Proof_holds 4 = .ok (.invokevirtual 65, 3) := by decide +kernel
theorem dd_Proof_holds_7 : decode bb_Proof_holds 7 = .ok (.ireturn, 1) := by decide +kernel
theorem dd_Proof_isSoundIn_0 : decode bb_Proof_isSoundIn 0 = .ok (.aload_n 0, 1) := by decide +kernel
theorem dd_Proof_isSoundIn_1 : decode bb_Proof_isSoundIn 1 = .ok (.aload_n 2, 1) := by decide +kernel
theorem dd_Proof_isSoundIn_2 : decode bb_Proof_isSoundIn 2 = .ok (.invokevirtual 69, 3) := by decide +kernel
theorem dd_Proof_isSoundIn_5 : decode bb_Proof_isSoundIn 5 = .ok (.ifCond .eq 5, 3) := by decide +kernel
theorem dd_Proof_isSoundIn_8 : decode bb_Proof_isSoundIn 8 = .ok (.iconst 1, 1) := by decide +kernel
theorem dd_Proof_isSoundIn_9 : decode bb_Proof_isSoundIn 9 = .ok (.ireturn, 1) := by decide +kernel
theorem dd_Proof_isSoundIn_10 : decode bb_Proof_isSoundIn 10 = .ok (.aload_n 1, 1) := by decide +kernel
theorem dd_Proof_isSoundIn_11 : decode bb_Proof_isSoundIn 11 = .ok (.aload_n 2, 1) := by decide +kernel
theorem dd_Proof_isSoundIn_12 : decode bb_Proof_isSoundIn 12 = .ok (.invokestatic 73, 3) := by decide +kernel
theorem dd_Proof_isSoundIn_15 : decode bb_Proof_isSoundIn 15 = .ok (.istore 4, 2) := by decide +kernel
theorem dd_Proof_isSoundIn_17 : decode bb_Proof_isSoundIn 17 = .ok (.iload 4, 2) := by decide +kernel
theorem dd_Proof_isSoundIn_19 : decode bb_Proof_isSoundIn 19 = .ok (.ifCond .lt 9, 3) := by decide +kernel
theorem dd_Proof_isSoundIn_22 : decode bb_Proof_isSoundIn 22 = .ok (.iload_n 3, 1) := by decide +kernel
theorem dd_Proof_isSoundIn_23 : decode bb_Proof_isSoundIn 23 = .ok (.bipush 32, 2) := by decide +kernel
theorem dd_Proof_isSoundIn_25 : decode bb_Proof_isSoundIn 25 = .ok (.if_icmp .lt 5, 3) := by decide +kernel
theorem dd_Proof_isSoundIn_28 : decode bb_Proof_isSoundIn 28 = .ok (.iconst 0, 1) := by decide +kernel
theorem dd_Proof_isSoundIn_29 : decode bb_Proof_isSoundIn 29 = .ok (.ireturn, 1) := by decide +kernel
theorem dd_Proof_isSoundIn_30 : decode bb_Proof_isSoundIn 30 = .ok (.aload_n 2, 1) := by decide +kernel
theorem dd_Proof_isSoundIn_31 : decode bb_Proof_isSoundIn 31 = .ok (.getfield 77, 3) := by decide +kernel
theorem dd_Proof_isSoundIn_34 : decode bb_Proof_isSoundIn 34 = .ok (.iload 4, 2) := by decide +kernel
theorem dd_Proof_isSoundIn_36 : decode bb_Proof_isSoundIn 36 = .ok (.iaload, 1) := by decide +kernel
theorem dd_Proof_isSoundIn_37 : decode bb_Proof_isSoundIn 37 = .ok (.istore 5, 2) := by decide +kernel
theorem dd_Proof_isSoundIn_39 : decode bb_Proof_isSoundIn 39 = .ok (.aload_n 2, 1) := by decide +kernel
theorem dd_Proof_isSoundIn_40 : decode bb_Proof_isSoundIn 40 = .ok (.getfield 80, 3) := by decide +kernel
theorem dd_Proof_isSoundIn_43 : decode bb_Proof_isSoundIn 43 = .ok (.iload 4, 2) := by decide +kernel
theorem dd_Proof_isSoundIn_45 : decode bb_Proof_isSoundIn 45 = .ok (.iaload, 1) := by decide +kernel
theorem dd_Proof_isSoundIn_46 : decode bb_Proof_isSoundIn 46 = .ok (.istore 6, 2) := by decide +kernel
theorem dd_Proof_isSoundIn_48 : decode bb_Proof_isSoundIn 48 = .ok (.iload 5, 2) := by decide +kernel
theorem dd_Proof_isSoundIn_50 : decode bb_Proof_isSoundIn 50 = .ok (.iload 6, 2) := by decide +kernel
theorem dd_Proof_isSoundIn_52 : decode bb_Proof_isSoundIn 52 = .ok (.iadd, 1) := by decide +kernel
theorem dd_Proof_isSoundIn_53 : decode bb_Proof_isSoundIn 53 = .ok (.iconst 2, 1) := by decide +kernel
theorem dd_Proof_isSoundIn_54 : decode bb_Proof_isSoundIn 54 = .ok (.invokestatic 83, 3) := by decide +kernel
theorem dd_Proof_isSoundIn_57 : decode bb_Proof_isSoundIn 57 = .ok (.istore 7, 2) := by decide +kernel
theorem dd_Proof_isSoundIn_59 : decode bb_Proof_isSoundIn 59 = .ok (.aload_n 2, 1) := by decide +kernel
theorem dd_Proof_isSoundIn_60 : decode bb_Proof_isSoundIn 60 = .ok (.getfield 80, 3) := by decide +kernel
theorem dd_Proof_isSoundIn_63 : decode bb_Proof_isSoundIn 63 = .ok (.iload 4, 2) := by decide +kernel
theorem dd_Proof_isSoundIn_65 : decode bb_Proof_isSoundIn 65 = .ok (.iload 7, 2) := by decide +kernel
theorem dd_Proof_isSoundIn_67 : decode bb_Proof_isSoundIn 67 = .ok (.iastore, 1) := by decide +kernel
theorem dd_Proof_isSoundIn_68 : decode bb_Proof_isSoundIn 68 = .ok (.aload_n 0, 1) := by decide +kernel
theorem dd_Proof_isSoundIn_69 : decode bb_Proof_isSoundIn 69 = .ok (.aload_n 1, 1) := by decide +kernel
theorem dd_Proof_isSoundIn_70 : decode bb_Proof_isSoundIn 70 = .ok (.aload_n 2, 1) := by decide +kernel
theorem dd_Proof_isSoundIn_71 : decode bb_Proof_isSoundIn 71 = .ok (.iload_n 3, 1) := by decide +kernel
theorem dd_Proof_isSoundIn_72 : decode bb_Proof_isSoundIn 72 = .ok (.iconst 1, 1) := by decide +kernel
theorem dd_Proof_isSoundIn_73 : decode bb_Proof_isSoundIn 73 = .ok (.iadd, 1) := by decide +kernel
theorem dd_Proof_isSoundIn_74 : decode bb_Proof_isSoundIn 74 = .ok (.invokevirtual 65, 3) := by decide +kernel
theorem dd_Proof_isSoundIn_77 : decode bb_Proof_isSoundIn 77 = .ok (.istore 8, 2) := by decide +kernel
theorem dd_Proof_isSoundIn_79 : decode bb_Proof_isSoundIn 79 = .ok (.aload_n 2, 1) := by decide +kernel
theorem dd_Proof_isSoundIn_80 : decode bb_Proof_isSoundIn 80 = .ok (.getfield 80, 3) := by decide +kernel
theorem dd_Proof_isSoundIn_83 : decode bb_Proof_isSoundIn 83 = .ok (.iload 4, 2) := by decide +kernel
theorem dd_Proof_isSoundIn_85 : decode bb_Proof_isSoundIn 85 = .ok (.iload 6, 2) := by decide +kernel
theorem dd_Proof_isSoundIn_87 : decode bb_Proof_isSoundIn 87 = .ok (.iastore, 1) := by decide +kernel
theorem dd_Proof_isSoundIn_88 : decode bb_Proof_isSoundIn 88 = .ok (.iload 8, 2) := by decide +kernel
theorem dd_Proof_isSoundIn_90 : decode bb_Proof_isSoundIn 90 = .ok (.ifCond .ne 5, 3) := by decide +kernel
theorem dd_Proof_isSoundIn_93 : decode bb_Proof_isSoundIn 93 = .ok (.iconst 0, 1) := by decide +kernel
theorem dd_Proof_isSoundIn_94 : decode bb_Proof_isSoundIn 94 = .ok (.ireturn, 1) := by decide +kernel
theorem dd_Proof_isSoundIn_95 : decode bb_Proof_isSoundIn 95 = .ok (.aload_n 2, 1) := by decide +kernel
theorem dd_Proof_isSoundIn_96 : decode bb_Proof_isSoundIn 96 = .ok (.getfield 77, 3) := by decide +kernel
theorem dd_Proof_isSoundIn_99 : decode bb_Proof_isSoundIn 99 = .ok (.iload 4, 2) := by decide +kernel
theorem dd_Proof_isSoundIn_101 : decode bb_Proof_isSoundIn 101 = .ok (.iload 7, 2) := by decide +kernel
theorem dd_Proof_isSoundIn_103 : decode bb_Proof_isSoundIn 103 = .ok (.iconst 1, 1) := by decide +kernel
theorem dd_Proof_isSoundIn_104 : decode bb_Proof_isSoundIn 104 = .ok (.iadd, 1) := by decide +kernel
theorem dd_Proof_isSoundIn_105 : decode bb_Proof_isSoundIn 105 = .ok (.iastore, 1) := by decide +kernel
theorem dd_Proof_isSoundIn_106 : decode bb_Proof_isSoundIn 106 = .ok (.aload_n 0, 1) := by decide +kernel
theorem dd_Proof_isSoundIn_107 : decode bb_Proof_isSoundIn 107 = .ok (.aload_n 1, 1) := by decide +kernel
theorem dd_Proof_isSoundIn_108 : decode bb_Proof_isSoundIn 108 = .ok (.aload_n 2, 1) := by decide +kernel
theorem dd_Proof_isSoundIn_109 : decode bb_Proof_isSoundIn 109 = .ok (.iload_n 3, 1) := by decide +kernel
theorem dd_Proof_isSoundIn_110 : decode bb_Proof_isSoundIn 110 = .ok (.iconst 1, 1) := by decide +kernel
theorem dd_Proof_isSoundIn_111 : decode bb_Proof_isSoundIn 111 = .ok (.iadd, 1) := by decide +kernel
theorem dd_Proof_isSoundIn_112 : decode bb_Proof_isSoundIn 112 = .ok (.invokevirtual 65, 3) := by decide +kernel
theorem dd_Proof_isSoundIn_115 : decode bb_Proof_isSoundIn 115 = .ok (.istore 9, 2) := by decide +kernel
theorem dd_Proof_isSoundIn_117 : decode bb_Proof_isSoundIn 117 = .ok (.aload_n 2, 1) := by decide +kernel
theorem dd_Proof_isSoundIn_118 : decode bb_Proof_isSoundIn 118 = .ok (.getfield 77, 3) := by decide +kernel
theorem dd_Proof_isSoundIn_121 : decode bb_Proof_isSoundIn 121 = .ok (.iload 4, 2) := by decide +kernel
theorem dd_Proof_isSoundIn_123 : decode bb_Proof_isSoundIn 123 = .ok (.iload 5, 2) := by decide +kernel
theorem dd_Proof_isSoundIn_125 : decode bb_Proof_isSoundIn 125 = .ok (.iastore, 1) := by decide +kernel
theorem dd_Proof_isSoundIn_126 : decode bb_Proof_isSoundIn 126 = .ok (.iload 9, 2) := by decide +kernel
theorem dd_Proof_isSoundIn_128 : decode bb_Proof_isSoundIn 128 = .ok (.ireturn, 1) := by decide +kernel
theorem dd_Proof_hasEnd_0 : decode bb_Proof_hasEnd 0 = .ok (.iconst 0, 1) := by decide +kernel
theorem dd_Proof_hasEnd_1 : decode bb_Proof_hasEnd 1 = .ok (.istore_n 2, 1) := by decide +kernel
theorem dd_Proof_hasEnd_2 : decode bb_Proof_hasEnd 2 = .ok (.iload_n 2, 1) := by decide +kernel
theorem dd_Proof_hasEnd_3 : decode bb_Proof_hasEnd 3 = .ok (.aload_n 0, 1) := by decide +kernel
theorem dd_Proof_hasEnd_4 : decode bb_Proof_hasEnd 4 = .ok (.getfield 11, 3) := by decide +kernel
theorem dd_Proof_hasEnd_7 : decode bb_Proof_hasEnd 7 = .ok (.if_icmp .ge 26, 3) := by decide +kernel
theorem dd_Proof_hasEnd_10 : decode bb_Proof_hasEnd 10 = .ok (.aload_n 1, 1) := by decide +kernel
theorem dd_Proof_hasEnd_11 : decode bb_Proof_hasEnd 11 = .ok (.aload_n 0, 1) := by decide +kernel
theorem dd_Proof_hasEnd_12 : decode bb_Proof_hasEnd 12 = .ok (.getfield 23, 3) := by decide +kernel
theorem dd_Proof_hasEnd_15 : decode bb_Proof_hasEnd 15 = .ok (.iload_n 2, 1) := by decide +kernel
theorem dd_Proof_hasEnd_16 : decode bb_Proof_hasEnd 16 = .ok (.bipush 6, 2) := by decide +kernel
theorem dd_Proof_hasEnd_18 : decode bb_Proof_hasEnd 18 = .ok (.imul, 1) := by decide +kernel
theorem dd_Proof_hasEnd_19 : decode bb_Proof_hasEnd 19 = .ok (.invokevirtual 86, 3) := by decide +kernel
theorem dd_Proof_hasEnd_22 : decode bb_Proof_hasEnd 22 = .ok (.ifCond .eq 5, 3) := by decide +kernel
theorem dd_Proof_hasEnd_25 : decode bb_Proof_hasEnd 25 = .ok (.iconst 1, 1) := by decide +kernel
theorem dd_Proof_hasEnd_26 : decode bb_Proof_hasEnd 26 = .ok (.ireturn, 1) := by decide +kernel
theorem dd_Proof_hasEnd_27 : decode bb_Proof_hasEnd 27 = .ok (.iinc 2 1, 3) := by decide +kernel
theorem dd_Proof_hasEnd_30 : decode bb_Proof_hasEnd 30 = .ok (.goto (-28), 3) := by decide +kernel
theorem dd_Proof_hasEnd_33 : decode bb_Proof_hasEnd 33 = .ok (.iconst 0, 1) := by decide +kernel
theorem dd_Proof_hasEnd_34 : decode bb_Proof_hasEnd 34 = .ok (.ireturn, 1) := by decide +kernel
theorem dd_Proof_widest_0 : decode bb_Proof_widest 0 = .ok (.iconst (-1), 1) := by decide +kernel
theorem dd_Proof_widest_1 : decode bb_Proof_widest 1 = .ok (.istore_n 2, 1) := by decide +kernel
theorem dd_Proof_widest_2 : decode bb_Proof_widest 2 = .ok (.iconst 0, 1) := by decide +kernel
theorem dd_Proof_widest_3 : decode bb_Proof_widest 3 = .ok (.istore_n 3, 1) := by decide +kernel
theorem dd_Proof_widest_4 : decode bb_Proof_widest 4 = .ok (.iconst 0, 1) := by decide +kernel
theorem dd_Proof_widest_5 : decode bb_Proof_widest 5 = .ok (.istore 4, 2) := by decide +kernel
theorem dd_Proof_widest_7 : decode bb_Proof_widest 7 = .ok (.iload 4, 2) := by decide +kernel
theorem dd_Proof_widest_9 : decode bb_Proof_widest 9 = .ok (.aload_n 0, 1) := by decide +kernel
theorem dd_Proof_widest_10 : decode bb_Proof_widest 10 = .ok (.getfield 33, 3) := by decide +kernel
theorem dd_Proof_widest_13 : decode bb_Proof_widest 13 = .ok (.if_icmp .ge 57, 3) := by decide +kernel
theorem dd_Proof_widest_16 : decode bb_Proof_widest 16 = .ok (.aload_n 0, 1) := by decide +kernel
theorem dd_Proof_widest_17 : decode bb_Proof_widest 17 = .ok (.getfield 90, 3) := by decide +kernel
theorem dd_Proof_widest_20 : decode bb_Proof_widest 20 = .ok (.iload 4, 2) := by decide +kernel
theorem dd_Proof_widest_22 : decode bb_Proof_widest 22 = .ok (.baload, 1) := by decide +kernel
theorem dd_Proof_widest_23 : decode bb_Proof_widest 23 = .ok (.ifCond .eq 41, 3) := by decide +kernel
theorem dd_Proof_widest_26 : decode bb_Proof_widest 26 = .ok (.aload_n 1, 1) := by decide +kernel
theorem dd_Proof_widest_27 : decode bb_Proof_widest 27 = .ok (.getfield 80, 3) := by decide +kernel
theorem dd_Proof_widest_30 : decode bb_Proof_widest 30 = .ok (.iload 4, 2) := by decide +kernel
theorem dd_Proof_widest_32 : decode bb_Proof_widest 32 = .ok (.iaload, 1) := by decide +kernel
theorem dd_Proof_widest_33 : decode bb_Proof_widest 33 = .ok (.aload_n 1, 1) := by decide +kernel
theorem dd_Proof_widest_34 : decode bb_Proof_widest 34 = .ok (.getfield 77, 3) := by decide +kernel
theorem dd_Proof_widest_37 : decode bb_Proof_widest 37 = .ok (.iload 4, 2) := by decide +kernel
theorem dd_Proof_widest_39 : decode bb_Proof_widest 39 = .ok (.iaload, 1) := by decide +kernel
theorem dd_Proof_widest_40 : decode bb_Proof_widest 40 = .ok (.isub, 1) := by decide +kernel
theorem dd_Proof_widest_41 : decode bb_Proof_widest 41 = .ok (.iload_n 3, 1) := by decide +kernel
theorem dd_Proof_widest_42 : decode bb_Proof_widest 42 = .ok (.if_icmp .le 22, 3) := by decide +kernel
theorem dd_Proof_widest_45 : decode bb_Proof_widest 45 = .ok (.iload 4, 2) := by decide +kernel
theorem dd_Proof_widest_47 : decode bb_Proof_widest 47 = .ok (.istore_n 2, 1) := by decide +kernel
theorem dd_Proof_widest_48 : decode bb_Proof_widest 48 = .ok (.aload_n 1, 1) := by decide +kernel
theorem dd_Proof_widest_49 : decode bb_Proof_widest 49 = .ok (.getfield 80, 3) := by decide +kernel
theorem dd_Proof_widest_52 : decode bb_Proof_widest 52 = .ok (.iload 4, 2) := by decide +kernel
theorem dd_Proof_widest_54 : decode bb_Proof_widest 54 = .ok (.iaload, 1) := by decide +kernel
theorem dd_Proof_widest_55 : decode bb_Proof_widest 55 = .ok (.aload_n 1, 1) := by decide +kernel
theorem dd_Proof_widest_56 : decode bb_Proof_widest 56 = .ok (.getfield 77, 3) := by decide +kernel
theorem dd_Proof_widest_59 : decode bb_Proof_widest 59 = .ok (.iload 4, 2) := by decide +kernel
theorem dd_Proof_widest_61 : decode bb_Proof_widest 61 = .ok (.iaload, 1) := by decide +kernel
theorem dd_Proof_widest_62 : decode bb_Proof_widest 62 = .ok (.isub, 1) := by decide +kernel
theorem dd_Proof_widest_63 : decode bb_Proof_widest 63 = .ok (.istore_n 3, 1) := by decide +kernel
theorem dd_Proof_widest_64 : decode bb_Proof_widest 64 = .ok (.iinc 4 1, 3) := by decide +kernel
theorem dd_Proof_widest_67 : decode bb_Proof_widest 67 = .ok (.goto (-60), 3) := by decide +kernel
theorem dd_Proof_widest_70 : decode bb_Proof_widest 70 = .ok (.iload_n 2, 1) := by decide +kernel
theorem dd_Proof_widest_71 : decode bb_Proof_widest 71 = .ok (.ireturn, 1) := by decide +kernel
