theorem dd_Model_init_0 : decode bb_Model_init 0 = .ok (.aload_n 0, 1) := by decide +kernel
theorem dd_Model_init_1 : decode bb_Model_init 1 = .ok (.invokespecial 1, 3) := by decide +kernel
theorem dd_Model_init_4 : decode bb_Model_init 4 = .ok (.aload_n 0, 1) := by decide +kernel
theorem dd_Model_init_5 : decode bb_Model_init 5 = .ok (.iconst 1, 1) := by decide +kernel
theorem dd_Model_init_6 : decode bb_Model_init 6 = .ok (.putfield 7, 3) := by decide +kernel
theorem dd_Model_init_9 : decode bb_Model_init 9 = .ok (.aload_n 0, 1) := by decide +kernel
theorem dd_Model_init_10 : decode bb_Model_init 10 = .ok (.iconst 4, 1) := by decide +kernel
theorem dd_Model_init_11 : decode bb_Model_init 11 = .ok (.newarray .int, 2) := by decide +kernel
theorem dd_Model_init_13 : decode bb_Model_init 13 = .ok (.putfield 13, 3) := by decide +kernel
theorem dd_Model_init_16 : decode bb_Model_init 16 = .ok (.aload_n 0, 1) := by decide +kernel
theorem dd_Model_init_17 : decode bb_Model_init 17 = .ok (.iconst 4, 1) := by decide +kernel
theorem dd_Model_init_18 : decode bb_Model_init 18 = .ok (.newarray .int, 2) := by decide +kernel
theorem dd_Model_init_20 : decode bb_Model_init 20 = .ok (.putfield 17, 3) := by decide +kernel
theorem dd_Model_init_23 : decode bb_Model_init 23 = .ok (.aload_n 0, 1) := by decide +kernel
theorem dd_Model_init_24 : decode bb_Model_init 24 = .ok (.iconst 4, 1) := by decide +kernel
theorem dd_Model_init_25 : decode bb_Model_init 25 = .ok (.newarray .boolean, 2) := by decide +kernel
theorem dd_Model_init_27 : decode bb_Model_init 27 = .ok (.dup, 1) := by decide +kernel
theorem dd_Model_init_28 : decode bb_Model_init 28 = .ok (.iconst 0, 1) := by decide +kernel
theorem dd_Model_init_29 : decode bb_Model_init 29 = .ok (.iconst 1, 1) := by decide +kernel
theorem dd_Model_init_30 : decode bb_Model_init 30 = .ok (.bastore, 1) := by decide +kernel
theorem dd_Model_init_31 : decode bb_Model_init 31 = .ok (.dup, 1) := by decide +kernel
theorem dd_Model_init_32 : decode bb_Model_init 32 = .ok (.iconst 1, 1) := by decide +kernel
theorem dd_Model_init_33 : decode bb_Model_init 33 = .ok (.iconst 1, 1) := by decide +kernel
theorem dd_Model_init_34 : decode bb_Model_init 34 = .ok (.bastore, 1) := by decide +kernel
theorem dd_Model_init_35 : decode bb_Model_init 35 = .ok (.dup, 1) := by decide +kernel
theorem dd_Model_init_36 : decode bb_Model_init 36 = .ok (.iconst 2, 1) := by decide +kernel
theorem dd_Model_init_37 : decode bb_Model_init 37 = .ok (.iconst 1, 1) := by decide +kernel
theorem dd_Model_init_38 : decode bb_Model_init 38 = .ok (.bastore, 1) := by decide +kernel
theorem dd_Model_init_39 : decode bb_Model_init 39 = .ok (.dup, 1) := by decide +kernel
theorem dd_Model_init_40 : decode bb_Model_init 40 = .ok (.iconst 3, 1) := by decide +kernel
theorem dd_Model_init_41 : decode bb_Model_init 41 = .ok (.iconst 1, 1) := by decide +kernel
theorem dd_Model_init_42 : decode bb_Model_init 42 = .ok (.bastore, 1) := by decide +kernel
theorem dd_Model_init_43 : decode bb_Model_init 43 = .ok (.putfield 20, 3) := by decide +kernel
theorem dd_Model_init_46 : decode bb_Model_init 46 = .ok (.aload_n 0, 1) := by decide +kernel
theorem dd_Model_init_47 : decode bb_Model_init 47 = .ok (.iconst 4, 1) := by decide +kernel
theorem dd_Model_init_48 : decode bb_Model_init 48 = .ok (.newarray .int, 2) := by decide +kernel
theorem dd_Model_init_50 : decode bb_Model_init 50 = .ok (.putfield 24, 3) := by decide +kernel
theorem dd_Model_init_53 : decode bb_Model_init 53 = .ok (.aload_n 0, 1) := by decide +kernel
theorem dd_Model_init_54 : decode bb_Model_init 54 = .ok (.bipush 24, 2) := by decide +kernel
theorem dd_Model_init_56 : decode bb_Model_init 56 = .ok (.newarray .int, 2) := by decide +kernel
theorem dd_Model_init_58 : decode bb_Model_init 58 = .ok (.putfield 27, 3) := by decide +kernel
theorem dd_Model_init_61 : decode bb_Model_init 61 = .ok (.aload_n 0, 1) := by decide +kernel
theorem dd_Model_init_62 : decode bb_Model_init 62 = .ok (.bipush 6, 2) := by decide +kernel
theorem dd_Model_init_64 : decode bb_Model_init 64 = .ok (.newarray .int, 2) := by decide +kernel
theorem dd_Model_init_66 : decode bb_Model_init 66 = .ok (.putfield 30, 3) := by decide +kernel
theorem dd_Model_init_69 : decode bb_Model_init 69 = .ok (.aload_n 0, 1) := by decide +kernel
theorem dd_Model_init_70 : decode bb_Model_init 70 = .ok (.iconst 4, 1) := by decide +kernel
theorem dd_Model_init_71 : decode bb_Model_init 71 = .ok (.newarray .long, 2) := by decide +kernel
theorem dd_Model_init_73 : decode bb_Model_init 73 = .ok (.putfield 33, 3) := by decide +kernel
theorem dd_Model_init_76 : decode bb_Model_init 76 = .ok (.aload_n 0, 1) := by decide +kernel
theorem dd_Model_init_77 : decode bb_Model_init 77 = .ok (.iconst 4, 1) := by decide +kernel
theorem dd_Model_init_78 : decode bb_Model_init 78 = .ok (.newarray .long, 2) := by decide +kernel
theorem dd_Model_init_80 : decode bb_Model_init 80 = .ok (.putfield 37, 3) := by decide +kernel
theorem dd_Model_init_83 : decode bb_Model_init 83 = .ok (.aload_n 0, 1) := by decide +kernel
theorem dd_Model_init_84 : decode bb_Model_init 84 = .ok (.iconst 4, 1) := by decide +kernel
theorem dd_Model_init_85 : decode bb_Model_init 85 = .ok (.newarray .int, 2) := by decide +kernel
theorem dd_Model_init_87 : decode bb_Model_init 87 = .ok (.putfield 40, 3) := by decide +kernel
theorem dd_Model_init_90 : decode bb_Model_init 90 = .ok (.aload_n 0, 1) := by decide +kernel
theorem dd_Model_init_91 : decode bb_Model_init 91 = .ok (.bipush 70, 2) := by decide +kernel
theorem dd_Model_init_93 : decode bb_Model_init 93 = .ok (.newarray .long, 2) := by decide +kernel
theorem dd_Model_init_95 : decode bb_Model_init 95 = .ok (.putfield 43, 3) := by decide +kernel
theorem dd_Model_init_98 : decode bb_Model_init 98 = .ok (.aload_n 0, 1) := by decide +kernel
theorem dd_Model_init_99 : decode bb_Model_init 99 = .ok (.bipush 16, 2) := by decide +kernel
theorem dd_Model_init_101 : decode bb_Model_init 101 = .ok (.newarray .long, 2) := by decide +kernel
theorem dd_Model_init_103 : decode bb_Model_init 103 = .ok (.putfield 46, 3) := by decide +kernel
theorem dd_Model_init_106 : decode bb_Model_init 106 = .ok (.aload_n 0, 1) := by decide +kernel
theorem dd_Model_init_107 : decode bb_Model_init 107 = .ok (.iconst 4, 1) := by decide +kernel
theorem dd_Model_init_108 : decode bb_Model_init 108 = .ok (.newarray .int, 2) := by decide +kernel
theorem dd_Model_init_110 : decode bb_Model_init 110 = .ok (.putfield 49, 3) := by decide +kernel
theorem dd_Model_init_113 : decode bb_Model_init 113 = .ok (.aload_n 0, 1) := by decide +kernel
theorem dd_Model_init_114 : decode bb_Model_init 114 = .ok (.bipush 40, 2) := by decide +kernel
theorem dd_Model_init_116 : decode bb_Model_init 116 = .ok (.newarray .int, 2) := by decide +kernel
theorem dd_Model_init_118 : decode bb_Model_init 118 = .ok (.putfield 52, 3) := by decide +kernel
theorem dd_Model_init_121 : decode bb_Model_init 121 = .ok (.aload_n 0, 1) := by decide +kernel
theorem dd_Model_init_122 : decode bb_Model_init 122 = .ok (.bipush 40, 2) := by decide +kernel
theorem dd_Model_init_124 : decode bb_Model_init 124 = .ok (.newarray .int, 2) := by decide +kernel
theorem dd_Model_init_126 : decode bb_Model_init 126 = .ok (.putfield 55, 3) := by decide +kernel
theorem dd_Model_init_129 : decode bb_Model_init 129 = .ok (.aload_n 0, 1) := by decide +kernel
theorem dd_Model_init_130 : decode bb_Model_init 130 = .ok (.bipush 40, 2) := by decide +kernel
theorem dd_Model_init_132 : decode bb_Model_init 132 = .ok (.newarray .int, 2) := by decide +kernel
theorem dd_Model_init_134 : decode bb_Model_init 134 = .ok (.putfield 58, 3) := by decide +kernel
theorem dd_Model_init_137 : decode bb_Model_init 137 = .ok (.aload_n 0, 1) := by decide +kernel
theorem dd_Model_init_138 : decode bb_Model_init 138 = .ok (.bipush 40, 2) := by decide +kernel
theorem dd_Model_init_140 : decode bb_Model_init 140 = .ok (.newarray .int, 2) := by decide +kernel
theorem dd_Model_init_142 : decode bb_Model_init 142 = .ok (.putfield 61, 3) := by decide +kernel
theorem dd_Model_init_145 : decode bb_Model_init 145 = .ok (.aload_n 0, 1) := by decide +kernel
theorem dd_Model_init_146 : decode bb_Model_init 146 = .ok (.bipush 40, 2) := by decide +kernel
theorem dd_Model_init_148 : decode bb_Model_init 148 = .ok (.newarray .int, 2) := by decide +kernel
theorem dd_Model_init_150 : decode bb_Model_init 150 = .ok (.putfield 64, 3) := by decide +kernel
theorem dd_Model_init_153 : decode bb_Model_init 153 = .ok (.aload_n 0, 1) := by decide +kernel
theorem dd_Model_init_154 : decode bb_Model_init 154 = .ok (.sipush 280, 3) := by decide +kernel
theorem dd_Model_init_157 : decode bb_Model_init 157 = .ok (.newarray .long, 2) := by decide +kernel
theorem dd_Model_init_159 : decode bb_Model_init 159 = .ok (.putfield 67, 3) := by decide +kernel
theorem dd_Model_init_162 : decode bb_Model_init 162 = .ok (.aload_n 0, 1) := by decide +kernel
theorem dd_Model_init_163 : decode bb_Model_init 163 = .ok (.sipush 900, 3) := by decide +kernel
theorem dd_Model_init_166 : decode bb_Model_init 166 = .ok (.newarray .int, 2) := by decide +kernel
theorem dd_Model_init_168 : decode bb_Model_init 168 = .ok (.putfield 70, 3) := by decide +kernel
theorem dd_Model_init_171 : decode bb_Model_init 171 = .ok (.aload_n 0, 1) := by decide +kernel
theorem dd_Model_init_172 : decode bb_Model_init 172 = .ok (.iconst 4, 1) := by decide +kernel
theorem dd_Model_init_173 : decode bb_Model_init 173 = .ok (.newarray .long, 2) := by decide +kernel
theorem dd_Model_init_175 : decode bb_Model_init 175 = .ok (.putfield 73, 3) := by decide +kernel
theorem dd_Model_init_178 : decode bb_Model_init 178 = .ok (.return_, 1) := by decide +kernel
theorem dd_Model_thrown_0 : decode bb_Model_thrown 0 = .ok (.aload_n 0, 1) := by decide +kernel
theorem dd_Model_thrown_1 : decode bb_Model_thrown 1 = .ok (.getfield 76, 3) := by decide +kernel
theorem dd_Model_thrown_4 : decode bb_Model_thrown 4 = .ok (.ireturn, 1) := by decide +kernel
theorem dd_Model_isIn_0 : decode bb_Model_isIn 0 = .ok (.iload_n 0, 1) := by decide +kernel
theorem dd_Model_isIn_1 : decode bb_Model_isIn 1 = .ok (.iload_n 1, 1) := by decide +kernel
theorem dd_Model_isIn_2 : decode bb_Model_isIn 2 = .ok (.if_icmp .lt 12, 3) := by decide +kernel
theorem dd_Model_isIn_5 : decode bb_Model_isIn 5 = .ok (.iload_n 0, 1) := by decide +kernel
theorem dd_Model_isIn_6 : decode bb_Model_isIn 6 = .ok (.iload_n 2, 1) := by decide +kernel
theorem dd_Model_isIn_7 : decode bb_Model_isIn 7 = .ok (.if_icmp .gt 7, 3) := by decide +kernel
theorem dd_Model_isIn_10 : decode bb_Model_isIn 10 = .ok (.iconst 1, 1) := by decide +kernel
theorem dd_Model_isIn_11 : decode bb_Model_isIn 11 = .ok (.goto 4, 3) := by decide +kernel
theorem dd_Model_isIn_14 : decode bb_Model_isIn 14 = .ok (.iconst 0, 1) := by decide +kernel
theorem dd_Model_isIn_15 : decode bb_Model_isIn 15 = .ok (.ireturn, 1) := by decide +kernel
theorem dd_Model_start_0 : decode bb_Model_start 0 = .ok (.aload_n 0, 1) := by decide +kernel
theorem dd_Model_start_1 : decode bb_Model_start 1 = .ok (.iload_n 1, 1) := by decide +kernel
theorem dd_Model_start_2 : decode bb_Model_start 2 = .ok (.iconst 1, 1) := by decide +kernel
theorem dd_Model_start_3 : decode bb_Model_start 3 = .ok (.iconst 4, 1) := by decide +kernel
theorem dd_Model_start_4 : decode bb_Model_start 4 = .ok (.invokestatic 79, 3) := by decide +kernel
theorem dd_Model_start_7 : decode bb_Model_start 7 = .ok (.ifCond .eq 7, 3) := by decide +kernel
theorem dd_Model_start_10 : decode bb_Model_start 10 = .ok (.iconst 0, 1) := by decide +kernel
theorem dd_Model_start_11 : decode bb_Model_start 11 = .ok (.goto 4, 3) := by decide +kernel
theorem dd_Model_start_14 : decode bb_Model_start 14 = .ok (.iconst 1, 1) := by decide +kernel
theorem dd_Model_start_15 : decode bb_Model_start 15 = .ok (.putfield 76, 3) := by decide +kernel
theorem dd_Model_start_18 : decode bb_Model_start 18 = .ok (.aload_n 0, 1) := by decide +kernel
theorem dd_Model_start_19 : decode bb_Model_start 19 = .ok (.getfield 76, 3) := by decide +kernel
theorem dd_Model_start_22 : decode bb_Model_start 22 = .ok (.ifCond .le 4, 3) := by decide +kernel
theorem dd_Model_start_25 : decode bb_Model_start 25 = .ok (.return_, 1) := by decide +kernel
theorem dd_Model_start_26 : decode bb_Model_start 26 = .ok (.aload_n 0, 1) := by decide +kernel
theorem dd_Model_start_27 : decode bb_Model_start 27 = .ok (.iload_n 1, 1) := by decide +kernel
theorem dd_Model_start_28 : decode bb_Model_start 28 = .ok (.putfield 7, 3) := by decide +kernel
theorem dd_Model_start_31 : decode bb_Model_start 31 = .ok (.aload_n 0, 1) := by decide +kernel
theorem dd_Model_start_32 : decode bb_Model_start 32 = .ok (.iconst 0, 1) := by decide +kernel
theorem dd_Model_start_33 : decode bb_Model_start 33 = .ok (.putfield 83, 3) := by decide +kernel
theorem dd_Model_start_36 : decode bb_Model_start 36 = .ok (.aload_n 0, 1) := by decide +kernel
theorem dd_Model_start_37 : decode bb_Model_start 37 = .ok (.iconst 0, 1) := by decide +kernel
theorem dd_Model_start_38 : decode bb_Model_start 38 = .ok (.putfield 86, 3) := by decide +kernel
theorem dd_Model_start_41 : decode bb_Model_start 41 = .ok (.iconst 0, 1) := by decide +kernel
theorem dd_Model_start_42 : decode bb_Model_start 42 = .ok (.istore_n 2, 1) := by decide +kernel
theorem dd_Model_start_43 : decode bb_Model_start 43 = .ok (.iload_n 2, 1) := by decide +kernel
theorem dd_Model_start_44 : decode bb_Model_start 44 = .ok (.iconst 4, 1) := by decide +kernel
theorem dd_Model_start_45 : decode bb_Model_start 45 = .ok (.if_icmp .ge 38, 3) := by decide +kernel
theorem dd_Model_start_48 : decode bb_Model_start 48 = .ok (.aload_n 0, 1) := by decide +kernel
theorem dd_Model_start_49 : decode bb_Model_start 49 = .ok (.getfield 13, 3) := by decide +kernel
theorem dd_Model_start_52 : decode bb_Model_start 52 = .ok (.iload_n 2, 1) := by decide +kernel
theorem dd_Model_start_53 : decode bb_Model_start 53 = .ok (.iconst 0, 1) := by decide +kernel
theorem dd_Model_start_54 : decode bb_Model_start 54 = .ok (.iastore, 1) := by decide +kernel
theorem dd_Model_start_55 : decode bb_Model_start 55 = .ok (.aload_n 0, 1) := by decide +kernel
theorem dd_Model_start_56 : decode bb_Model_start 56 = .ok (.getfield 17, 3) := by decide +kernel
theorem dd_Model_start_59 : decode bb_Model_start 59 = .ok (.iload_n 2, 1) := by decide +kernel
theorem dd_Model_start_60 : decode bb_Model_start 60 = .ok (.bipush 8, 2) := by decide +kernel
theorem dd_Model_start_62 : decode bb_Model_start 62 = .ok (.iastore, 1) := by decide +kernel
theorem dd_Model_start_63 : decode bb_Model_start 63 = .ok (.aload_n 0, 1) := by decide +kernel
theorem dd_Model_start_64 : decode bb_Model_start 64 = .ok (.getfield 20, 3) := by decide +kernel
theorem dd_Model_start_67 : decode bb_Model_start 67 = .ok (.iload_n 2, 1) := by decide +kernel
theorem dd_Model_start_68 : decode bb_Model_start 68 = .ok (.iconst 1, 1) := by decide +kernel
theorem dd_Model_start_69 : decode bb_Model_start 69 = .ok (.bastore, 1) := by decide +kernel
theorem dd_Model_start_70 : decode bb_Model_start 70 = .ok (.aload_n 0, 1) := by decide +kernel
theorem dd_Model_start_71 : decode bb_Model_start 71 = .ok (.getfield 24, 3) := by decide +kernel
theorem dd_Model_start_74 : decode bb_Model_start 74 = .ok (.iload_n 2, 1) := by decide +kernel
theorem dd_Model_start_75 : decode bb_Model_start 75 = .ok (.iconst 0, 1) := by decide +kernel
theorem dd_Model_start_76 : decode bb_Model_start 76 = .ok (.iastore, 1) := by decide +kernel
theorem dd_Model_start_77 : decode bb_Model_start 77 = .ok (.iinc 2 1, 3) := by decide +kernel
theorem dd_Model_start_80 : decode bb_Model_start 80 = .ok (.goto (-37), 3) := by decide +kernel
theorem dd_Model_start_83 : decode bb_Model_start 83 = .ok (.return_, 1) := by decide +kernel
theorem dd_Model_amount_0 : decode bb_Model_amount 0 = .ok (.iload_n 2, 1) := by decide +kernel
theorem dd_Model_amount_1 : decode bb_Model_amount 1 = .ok (.bipush (-20), 2) := by decide +kernel
theorem dd_Model_amount_3 : decode bb_Model_amount 3 = .ok (.bipush 20, 2) := by decide +kernel
theorem dd_Model_amount_5 : decode bb_Model_amount 5 = .ok (.invokestatic 79, 3) := by decide +kernel
theorem dd_Model_amount_8 : decode bb_Model_amount 8 = .ok (.ifCond .eq 36, 3) := by decide +kernel
theorem dd_Model_amount_11 : decode bb_Model_amount 11 = .ok (.iload_n 3, 1) := by decide +kernel
theorem dd_Model_amount_12 : decode bb_Model_amount 12 = .ok (.bipush (-20), 2) := by decide +kernel
theorem dd_Model_amount_14 : decode bb_Model_amount 14 = .ok (.bipush 20, 2) := by decide +kernel
theorem dd_Model_amount_16 : decode bb_Model_amount 16 = .ok (.invokestatic 79, 3) := by decide +kernel
theorem dd_Model_amount_19 : decode bb_Model_amount 19 = .ok (.ifCond .eq 25, 3) := by decide +kernel
theorem dd_Model_amount_22 : decode bb_Model_amount 22 = .ok (.iload_n 2, 1) := by decide +kernel
theorem dd_Model_amount_23 : decode bb_Model_amount 23 = .ok (.iload_n 3, 1) := by decide +kernel
theorem dd_Model_amount_24 : decode bb_Model_amount 24 = .ok (.if_icmp .gt 20, 3) := by decide +kernel
theorem dd_Model_amount_27 : decode bb_Model_amount 27 = .ok (.iload 4, 2) := by decide +kernel
theorem dd_Model_amount_29 : decode bb_Model_amount 29 = .ok (.ifCond .eq 11, 3) := by decide +kernel
theorem dd_Model_amount_32 : decode bb_Model_amount 32 = .ok (.iload_n 3, 1) := by decide +kernel
theorem dd_Model_amount_33 : decode bb_Model_amount 33 = .ok (.iload_n 2, 1) := by decide +kernel
theorem dd_Model_amount_34 : decode bb_Model_amount 34 = .ok (.isub, 1) := by decide +kernel
theorem dd_Model_amount_35 : decode bb_Model_amount 35 = .ok (.bipush 8, 2) := by decide +kernel
theorem dd_Model_amount_37 : decode bb_Model_amount 37 = .ok (.if_icmp .gt 7, 3) := by decide +kernel
theorem dd_Model_amount_40 : decode bb_Model_amount 40 = .ok (.iconst 1, 1) := by decide +kernel
theorem dd_Model_amount_41 : decode bb_Model_amount 41 = .ok (.goto 4, 3) := by decide +kernel
theorem dd_Model_amount_44 : decode bb_Model_amount 44 = .ok (.iconst 0, 1) := by decide +kernel
theorem dd_Model_amount_45 : decode bb_Model_amount 45 = .ok (.istore 5, 2) := by decide +kernel
theorem dd_Model_amount_47 : decode bb_Model_amount 47 = .ok (.aload_n 0, 1) := by decide +kernel
theorem dd_Model_amount_48 : decode bb_Model_amount 48 = .ok (.iload_n 1, 1) := by decide +kernel
theorem dd_Model_amount_49 : decode bb_Model_amount 49 = .ok (.iconst 0, 1) := by decide +kernel
theorem dd_Model_amount_50 : decode bb_Model_amount 50 = .ok (.aload_n 0, 1) := by decide +kernel
theorem dd_Model_amount_51 : decode bb_Model_amount 51 = .ok (.getfield 7, 3) := by decide +kernel
theorem dd_Model_amount_54 : decode bb_Model_amount 54 = .ok (.iconst 1, 1) := by decide +kernel
theorem dd_Model_amount_55 : decode bb_Model_amount 55 = .ok (.isub, 1) := by decide +kernel
theorem dd_Model_amount_56 : decode bb_Model_amount 56 = .ok (.invokestatic 79, 3) := by decide +kernel
theorem dd_Model_amount_59 : decode bb_Model_amount 59 = .ok (.ifCond .ne 7, 3) := by decide +kernel
theorem dd_Model_amount_62 : decode bb_Model_amount 62 = .ok (.iconst 1, 1) := by decide +kernel
theorem dd_Model_amount_63 : decode bb_Model_amount 63 = .ok (.goto 13, 3) := by decide +kernel
theorem dd_Model_amount_66 : decode bb_Model_amount 66 = .ok (.iload 5, 2) := by decide +kernel
theorem dd_Model_amount_68 : decode bb_Model_amount 68 = .ok (.ifCond .eq 7, 3) := by decide +kernel
theorem dd_Model_amount_71 : decode bb_Model_amount 71 = .ok (.iconst 0, 1) := by decide +kernel
theorem dd_Model_amount_72 : decode bb_Model_amount 72 = .ok (.goto 4, 3) := by decide +kernel
theorem dd_Model_amount_75 : decode bb_Model_amount 75 = .ok (.iconst 2, 1) := by decide +kernel
theorem dd_Model_amount_76 : decode bb_Model_amount 76 = .ok (.putfield 76, 3) := by decide +kernel
theorem dd_Model_amount_79 : decode bb_Model_amount 79 = .ok (.aload_n 0, 1) := by decide +kernel
theorem dd_Model_amount_80 : decode bb_Model_amount 80 = .ok (.getfield 76, 3) := by decide +kernel
theorem dd_Model_amount_83 : decode bb_Model_amount 83 = .ok (.ifCond .ne 30, 3) := by decide +kernel
theorem dd_Model_amount_86 : decode bb_Model_amount 86 = .ok (.aload_n 0, 1) := by decide +kernel
theorem dd_Model_amount_87 : decode bb_Model_amount 87 = .ok (.getfield 13, 3) := by decide +kernel
theorem dd_Model_amount_90 : decode bb_Model_amount 90 = .ok (.iload_n 1, 1) := by decide +kernel
theorem dd_Model_amount_91 : decode bb_Model_amount 91 = .ok (.iload_n 2, 1) := by decide +kernel
theorem dd_Model_amount_92 : decode bb_Model_amount 92 = .ok (.iastore, 1) := by decide +kernel
theorem dd_Model_amount_93 : decode bb_Model_amount 93 = .ok (.aload_n 0, 1) := by decide +kernel
theorem dd_Model_amount_94 : decode bb_Model_amount 94 = .ok (.getfield 17, 3) := by decide +kernel
theorem dd_Model_amount_97 : decode bb_Model_amount 97 = .ok (.iload_n 1, 1) := by decide +kernel
theorem dd_Model_amount_98 : decode bb_Model_amount 98 = .ok (.iload_n 3, 1) := by decide +kernel
theorem dd_Model_amount_99 : decode bb_Model_amount 99 = .ok (.iastore, 1) := by decide +kernel
theorem dd_Model_amount_100 : decode bb_Model_amount 100 = .ok (.aload_n 0, 1) := by decide +kernel
theorem dd_Model_amount_101 : decode bb_Model_amount 101 = .ok (.getfield 20, 3) := by decide +kernel
theorem dd_Model_amount_104 : decode bb_Model_amount 104 = .ok (.iload_n 1, 1) := by decide +kernel
theorem dd_Model_amount_105 : decode bb_Model_amount 105 = .ok (.iload 4, 2) := by decide +kernel
theorem dd_Model_amount_107 : decode bb_Model_amount 107 = .ok (.bastore, 1) := by decide +kernel
theorem dd_Model_amount_108 : decode bb_Model_amount 108 = .ok (.aload_n 0, 1) := by decide +kernel
theorem dd_Model_amount_109 : decode bb_Model_amount 109 = .ok (.iconst 0, 1) := by decide +kernel
theorem dd_Model_amount_110 : decode bb_Model_amount 110 = .ok (.putfield 86, 3) := by decide +kernel
theorem dd_Model_amount_113 : decode bb_Model_amount 113 = .ok (.return_, 1) := by decide +kernel
theorem dd_Model_cost_0 : decode bb_Model_cost 0 = .ok (.aload_n 0, 1) := by decide +kernel
theorem dd_Model_cost_1 : decode bb_Model_cost 1 = .ok (.iload_n 1, 1) := by decide +kernel
theorem dd_Model_cost_2 : decode bb_Model_cost 2 = .ok (.iconst 0, 1) := by decide +kernel
theorem dd_Model_cost_3 : decode bb_Model_cost 3 = .ok (.aload_n 0, 1) := by decide +kernel
theorem dd_Model_cost_4 : decode bb_Model_cost 4 = .ok (.getfield 7, 3) := by decide +kernel
theorem dd_Model_cost_7 : decode bb_Model_cost 7 = .ok (.iconst 1, 1) := by decide +kernel
theorem dd_Model_cost_8 : decode bb_Model_cost 8 = .ok (.isub, 1) := by decide +kernel
theorem dd_Model_cost_9 : decode bb_Model_cost 9 = .ok (.invokestatic 79, 3) := by decide +kernel
theorem dd_Model_cost_12 : decode bb_Model_cost 12 = .ok (.ifCond .ne 7, 3) := by decide +kernel
theorem dd_Model_cost_15 : decode bb_Model_cost 15 = .ok (.iconst 1, 1) := by decide +kernel
theorem dd_Model_cost_16 : decode bb_Model_cost 16 = .ok (.goto 19, 3) := by decide +kernel
theorem dd_Model_cost_19 : decode bb_Model_cost 19 = .ok (.iload_n 2, 1) := by decide +kernel
theorem dd_Model_cost_20 : decode bb_Model_cost 20 = .ok (.bipush (-9), 2) := by decide +kernel
theorem dd_Model_cost_22 : decode bb_Model_cost 22 = .ok (.bipush 9, 2) := by decide +kernel
theorem dd_Model_cost_24 : decode bb_Model_cost 24 = .ok (.invokestatic 79, 3) := by decide +kernel
theorem dd_Model_cost_27 : decode bb_Model_cost 27 = .ok (.ifCond .eq 7, 3) := by decide +kernel
theorem dd_Model_cost_30 : decode bb_Model_cost 30 = .ok (.iconst 0, 1) := by decide +kernel
theorem dd_Model_cost_31 : decode bb_Model_cost 31 = .ok (.goto 4, 3) := by decide +kernel
theorem dd_Model_cost_34 : decode bb_Model_cost 34 = .ok (.iconst 2, 1) := by decide +kernel
theorem dd_Model_cost_35 : decode bb_Model_cost 35 = .ok (.putfield 76, 3) := by decide +kernel
theorem dd_Model_cost_38 : decode bb_Model_cost 38 = .ok (.aload_n 0, 1) := by decide +kernel
theorem dd_Model_cost_39 : decode bb_Model_cost 39 = .ok (.getfield 76, 3) := by decide +kernel
theorem dd_Model_cost_42 : decode bb_Model_cost 42 = .ok (.ifCond .ne 15, 3) := by decide +kernel
theorem dd_Model_cost_45 : decode bb_Model_cost 45 = .ok (.aload_n 0, 1) := by decide +kernel
theorem dd_Model_cost_46 : decode bb_Model_cost 46 = .ok (.getfield 24, 3) := by decide +kernel
theorem dd_Model_cost_49 : decode bb_Model_cost 49 = .ok (.iload_n 1, 1) := by decide +kernel
theorem dd_Model_cost_50 : decode bb_Model_cost 50 = .ok (.iload_n 2, 1) := by decide +kernel
theorem dd_Model_cost_51 : decode bb_Model_cost 51 = .ok (.iastore, 1) := by decide +kernel
theorem dd_Model_cost_52 : decode bb_Model_cost 52 = .ok (.aload_n 0, 1) := by decide +kernel
theorem dd_Model_cost_53 : decode bb_Model_cost 53 = .ok (.iconst 0, 1) := by decide +kernel
theorem dd_Model_cost_54 : decode bb_Model_cost 54 = .ok (.putfield 86, 3) := by decide +kernel
theorem dd_Model_cost_57 : decode bb_Model_cost 57 = .ok (.return_, 1) := by decide +kernel
theorem dd_Model_pick_0 : decode bb_Model_pick 0 = .ok (.iload_n 0, 1) := by decide +kernel
theorem dd_Model_pick_1 : decode bb_Model_pick 1 = .ok (.ifCond .ne 7, 3) := by decide +kernel
theorem dd_Model_pick_4 : decode bb_Model_pick 4 = .ok (.iload_n 1, 1) := by decide +kernel
theorem dd_Model_pick_5 : decode bb_Model_pick 5 = .ok (.goto 23, 3) := by decide +kernel
theorem dd_Model_pick_8 : decode bb_Model_pick 8 = .ok (.iload_n 0, 1) := by decide +kernel
theorem dd_Model_pick_9 : decode bb_Model_pick 9 = .ok (.iconst 1, 1) := by decide +kernel
theorem dd_Model_pick_10 : decode bb_Model_pick 10 = .ok (.if_icmp .ne 7, 3) := by decide +kernel
theorem dd_Model_pick_13 : decode bb_Model_pick 13 = .ok (.iload_n 2, 1) := by decide +kernel
theorem dd_Model_pick_14 : decode bb_Model_pick 14 = .ok (.goto 14, 3) := by decide +kernel
theorem dd_Model_pick_17 : decode bb_Model_pick 17 = .ok (.iload_n 0, 1) := by decide +kernel
theorem dd_Model_pick_18 : decode bb_Model_pick 18 = .ok (.iconst 2, 1) := by decide +kernel
theorem dd_Model_pick_19 : decode bb_Model_pick 19 = .ok (.if_icmp .ne 7, 3) := by decide +kernel
theorem dd_Model_pick_22 : decode bb_Model_pick 22 = .ok (.iload_n 3, 1) := by decide +kernel
theorem dd_Model_pick_23 : decode bb_Model_pick 23 = .ok (.goto 5, 3) := by decide +kernel
theorem dd_Model_pick_26 : decode bb_Model_pick 26 = .ok (.iload 4, 2) := by decide +kernel
theorem dd_Model_pick_28 : decode bb_Model_pick 28 = .ok (.ireturn, 1) := by decide +kernel
theorem dd_Model_limit_0 : decode bb_Model_limit 0 = .ok (.iload 5, 2) := by decide +kernel
theorem dd_Model_limit_2 : decode bb_Model_limit 2 = .ok (.bipush (-99), 2) := by decide +kernel
theorem dd_Model_limit_4 : decode bb_Model_limit 4 = .ok (.bipush 99, 2) := by decide +kernel
theorem dd_Model_limit_6 : decode bb_Model_limit 6 = .ok (.invokestatic 79, 3) := by decide +kernel
theorem dd_Model_limit_9 : decode bb_Model_limit 9 = .ok (.istore 6, 2) := by decide +kernel
theorem dd_Model_limit_11 : decode bb_Model_limit 11 = .ok (.iconst 0, 1) := by decide +kernel
theorem dd_Model_limit_12 : decode bb_Model_limit 12 = .ok (.istore 7, 2) := by decide +kernel
theorem dd_Model_limit_14 : decode bb_Model_limit 14 = .ok (.iload 7, 2) := by decide +kernel
theorem dd_Model_limit_16 : decode bb_Model_limit 16 = .ok (.iconst 4, 1) := by decide +kernel
theorem dd_Model_limit_17 : decode bb_Model_limit 17 = .ok (.if_icmp .ge 59, 3) := by decide +kernel
theorem dd_Model_limit_20 : decode bb_Model_limit 20 = .ok (.iload 7, 2) := by decide +kernel
theorem dd_Model_limit_22 : decode bb_Model_limit 22 = .ok (.iload_n 1, 1) := by decide +kernel
theorem dd_Model_limit_23 : decode bb_Model_limit 23 = .ok (.iload_n 2, 1) := by decide +kernel
theorem dd_Model_limit_24 : decode bb_Model_limit 24 = .ok (.iload_n 3, 1) := by decide +kernel
theorem dd_Model_limit_25 : decode bb_Model_limit 25 = .ok (.iload 4, 2) := by decide +kernel
theorem dd_Model_limit_27 : decode bb_Model_limit 27 = .ok (.invokestatic 89, 3) := by decide +kernel
theorem dd_Model_limit_30 : decode bb_Model_limit 30 = .ok (.istore 8, 2) := by decide +kernel
theorem dd_Model_limit_32 : decode bb_Model_limit 32 = .ok (.iload 6, 2) := by decide +kernel
theorem dd_Model_limit_34 : decode bb_Model_limit 34 = .ok (.ifCond .eq 33, 3) := by decide +kernel
theorem dd_Model_limit_37 : decode bb_Model_limit 37 = .ok (.iload 8, 2) := by decide +kernel
theorem dd_Model_limit_39 : decode bb_Model_limit 39 = .ok (.bipush (-9), 2) := by decide +kernel
theorem dd_Model_limit_41 : decode bb_Model_limit 41 = .ok (.bipush 9, 2) := by decide +kernel
theorem dd_Model_limit_43 : decode bb_Model_limit 43 = .ok (.invokestatic 79, 3) := by decide +kernel
theorem dd_Model_limit_46 : decode bb_Model_limit 46 = .ok (.ifCond .eq 21, 3) := by decide +kernel
theorem dd_Model_limit_49 : decode bb_Model_limit 49 = .ok (.iload 7, 2) := by decide +kernel
theorem dd_Model_limit_51 : decode bb_Model_limit 51 = .ok (.aload_n 0, 1) := by decide +kernel
theorem dd_Model_limit_52 : decode bb_Model_limit 52 = .ok (.getfield 7, 3) := by decide +kernel
theorem dd_Model_limit_55 : decode bb_Model_limit 55 = .ok (.if_icmp .lt 8, 3) := by decide +kernel
theorem dd_Model_limit_58 : decode bb_Model_limit 58 = .ok (.iload 8, 2) := by decide +kernel
theorem dd_Model_limit_60 : decode bb_Model_limit 60 = .ok (.ifCond .ne 7, 3) := by decide +kernel
theorem dd_Model_limit_63 : decode bb_Model_limit 63 = .ok (.iconst 1, 1) := by decide +kernel
theorem dd_Model_limit_64 : decode bb_Model_limit 64 = .ok (.goto 4, 3) := by decide +kernel
theorem dd_Model_limit_67 : decode bb_Model_limit 67 = .ok (.iconst 0, 1) := by decide +kernel
theorem dd_Model_limit_68 : decode bb_Model_limit 68 = .ok (.istore 6, 2) := by decide +kernel
theorem dd_Model_limit_70 : decode bb_Model_limit 70 = .ok (.iinc 7 1, 3) := by decide +kernel
theorem dd_Model_limit_73 : decode bb_Model_limit 73 = .ok (.goto (-59), 3) := by decide +kernel
theorem dd_Model_limit_76 : decode bb_Model_limit 76 = .ok (.aload_n 0, 1) := by decide +kernel
theorem dd_Model_limit_77 : decode bb_Model_limit 77 = .ok (.iload 6, 2) := by decide +kernel
theorem dd_Model_limit_79 : decode bb_Model_limit 79 = .ok (.ifCond .ne 7, 3) := by decide +kernel
theorem dd_Model_limit_82 : decode bb_Model_limit 82 = .ok (.iconst 1, 1) := by decide +kernel
theorem dd_Model_limit_83 : decode bb_Model_limit 83 = .ok (.goto 17, 3) := by decide +kernel
theorem dd_Model_limit_86 : decode bb_Model_limit 86 = .ok (.aload_n 0, 1) := by decide +kernel
theorem dd_Model_limit_87 : decode bb_Model_limit 87 = .ok (.getfield 83, 3) := by decide +kernel
theorem dd_Model_limit_90 : decode bb_Model_limit 90 = .ok (.bipush 6, 2) := by decide +kernel
theorem dd_Model_limit_92 : decode bb_Model_limit 92 = .ok (.if_icmp .ne 7, 3) := by decide +kernel
theorem dd_Model_limit_95 : decode bb_Model_limit 95 = .ok (.iconst 2, 1) := by decide +kernel
theorem dd_Model_limit_96 : decode bb_Model_limit 96 = .ok (.goto 4, 3) := by decide +kernel
theorem dd_Model_limit_99 : decode bb_Model_limit 99 = .ok (.iconst 0, 1) := by decide +kernel
theorem dd_Model_limit_100 : decode bb_Model_limit 100 = .ok (.putfield 76, 3) := by decide +kernel
theorem dd_Model_limit_103 : decode bb_Model_limit 103 = .ok (.aload_n 0, 1) := by decide +kernel
theorem dd_Model_limit_104 : decode bb_Model_limit 104 = .ok (.getfield 76, 3) := by decide +kernel
theorem dd_Model_limit_107 : decode bb_Model_limit 107 = .ok (.ifCond .le 5, 3) := by decide +kernel
theorem dd_Model_limit_110 : decode bb_Model_limit 110 = .ok (.iconst 0, 1) := by decide +kernel
theorem dd_Model_limit_111 : decode bb_Model_limit 111 = .ok (.ireturn, 1) := by decide +kernel
theorem dd_Model_limit_112 : decode bb_Model_limit 112 = .ok (.iconst 0, 1) := by decide +kernel
theorem dd_Model_limit_113 : decode bb_Model_limit 113 = .ok (.istore 7, 2) := by decide +kernel
theorem dd_Model_limit_115 : decode bb_Model_limit 115 = .ok (.iload 7, 2) := by decide +kernel
theorem dd_Model_limit_117 : decode bb_Model_limit 117 = .ok (.iconst 4, 1) := by decide +kernel
theorem dd_Model_limit_118 : decode bb_Model_limit 118 = .ok (.if_icmp .ge 33, 3) := by decide +kernel
theorem dd_Model_limit_121 : decode bb_Model_limit 121 = .ok (.aload_n 0, 1) := by decide +kernel
theorem dd_Model_limit_122 : decode bb_Model_limit 122 = .ok (.getfield 27, 3) := by decide +kernel
theorem dd_Model_limit_125 : decode bb_Model_limit 125 = .ok (.iconst 4, 1) := by decide +kernel
theorem dd_Model_limit_126 : decode bb_Model_limit 126 = .ok (.aload_n 0, 1) := by decide +kernel
theorem dd_Model_limit_127 : decode bb_Model_limit 127 = .ok (.getfield 83, 3) := by decide +kernel
theorem dd_Model_limit_130 : decode bb_Model_limit 130 = .ok (.imul, 1) := by decide +kernel
theorem dd_Model_limit_131 : decode bb_Model_limit 131 = .ok (.iload 7, 2) := by decide +kernel
theorem dd_Model_limit_133 : decode bb_Model_limit 133 = .ok (.iadd, 1) := by decide +kernel
theorem dd_Model_limit_134 : decode bb_Model_limit 134 = .ok (.iload 7, 2) := by decide +kernel
theorem dd_Model_limit_136 : decode bb_Model_limit 136 = .ok (.iload_n 1, 1) := by decide +kernel
theorem dd_Model_limit_137 : decode bb_Model_limit 137 = .ok (.iload_n 2, 1) := by decide +kernel
theorem dd_Model_limit_138 : decode bb_Model_limit 138 = .ok (.iload_n 3, 1) := by decide +kernel
theorem dd_Model_limit_139 : decode bb_Model_limit 139 = .ok (.iload 4, 2) := by decide +kernel
theorem dd_Model_limit_141 : decode bb_Model_limit 141 = .ok (.invokestatic 89, 3) := by decide +kernel
theorem dd_Model_limit_144 : decode bb_Model_limit 144 = .ok (.iastore, 1) := by decide +kernel
theorem dd_Model_limit_145 : decode bb_Model_limit 145 = .ok (.iinc 7 1, 3) := by decide +kernel
theorem dd_Model_limit_148 : decode bb_Model_limit 148 = .ok (.goto (-33), 3) := by decide +kernel
theorem dd_Model_limit_151 : decode bb_Model_limit 151 = .ok (.aload_n 0, 1) := by decide +kernel
theorem dd_Model_limit_152 : decode bb_Model_limit 152 = .ok (.getfield 30, 3) := by decide +kernel
theorem dd_Model_limit_155 : decode bb_Model_limit 155 = .ok (.aload_n 0, 1) := by decide +kernel
theorem dd_Model_limit_156 : decode bb_Model_limit 156 = .ok (.getfield 83, 3) := by decide +kernel
theorem dd_Model_limit_159 : decode bb_Model_limit 159 = .ok (.iload 5, 2) := by decide +kernel
theorem dd_Model_limit_161 : decode bb_Model_limit 161 = .ok (.iastore, 1) := by decide +kernel
theorem dd_Model_limit_162 : decode bb_Model_limit 162 = .ok (.aload_n 0, 1) := by decide +kernel
theorem dd_Model_limit_163 : decode bb_Model_limit 163 = .ok (.dup, 1) := by decide +kernel
theorem dd_Model_limit_164 : decode bb_Model_limit 164 = .ok (.getfield 83, 3) := by decide +kernel
theorem dd_Model_limit_167 : decode bb_Model_limit 167 = .ok (.iconst 1, 1) := by decide +kernel
theorem dd_Model_limit_168 : decode bb_Model_limit 168 = .ok (.iadd, 1) := by decide +kernel
theorem dd_Model_limit_169 : decode bb_Model_limit 169 = .ok (.putfield 83, 3) := by decide +kernel
theorem dd_Model_limit_172 : decode bb_Model_limit 172 = .ok (.aload_n 0, 1) := by decide +kernel
theorem dd_Model_limit_173 : decode bb_Model_limit 173 = .ok (.iconst 0, 1) := by decide +kernel
theorem dd_Model_limit_174 : decode bb_Model_limit 174 = .ok (.putfield 86, 3) := by decide +kernel
theorem dd_Model_limit_177 : decode bb_Model_limit 177 = .ok (.aload_n 0, 1) := by decide +kernel
theorem dd_Model_limit_178 : decode bb_Model_limit 178 = .ok (.getfield 83, 3) := by decide +kernel
theorem dd_Model_limit_181 : decode bb_Model_limit 181 = .ok (.iconst 1, 1) := by decide +kernel
theorem dd_Model_limit_182 : decode bb_Model_limit 182 = .ok (.isub, 1) := by decide +kernel
theorem dd_Model_limit_183 : decode bb_Model_limit 183 = .ok (.ireturn, 1) := by decide +kernel
theorem dd_Model_drop_0 : decode bb_Model_drop 0 = .ok (.aload_n 0, 1) := by decide +kernel
theorem dd_Model_drop_1 : decode bb_Model_drop 1 = .ok (.iload_n 1, 1) := by decide +kernel
theorem dd_Model_drop_2 : decode bb_Model_drop 2 = .ok (.iconst 0, 1) := by decide +kernel
theorem dd_Model_drop_3 : decode bb_Model_drop 3 = .ok (.aload_n 0, 1) := by decide +kernel
theorem dd_Model_drop_4 : decode bb_Model_drop 4 = .ok (.getfield 83, 3) := by decide +kernel
theorem dd_Model_drop_7 : decode bb_Model_drop 7 = .ok (.iconst 1, 1) := by decide +kernel
theorem dd_Model_drop_8 : decode bb_Model_drop 8 = .ok (.isub, 1) := by decide +kernel
theorem dd_Model_drop_9 : decode bb_Model_drop 9 = .ok (.invokestatic 79, 3) := by decide +kernel
theorem dd_Model_drop_12 : decode bb_Model_drop 12 = .ok (.ifCond .eq 7, 3) := by decide +kernel
theorem dd_Model_drop_15 : decode bb_Model_drop 15 = .ok (.iconst 0, 1) := by decide +kernel
theorem dd_Model_drop_16 : decode bb_Model_drop 16 = .ok (.goto 4, 3) := by decide +kernel
theorem dd_Model_drop_19 : decode bb_Model_drop 19 = .ok (.iconst 1, 1) := by decide +kernel
theorem dd_Model_drop_20 : decode bb_Model_drop 20 = .ok (.putfield 76, 3) := by decide +kernel
theorem dd_Model_drop_23 : decode bb_Model_drop 23 = .ok (.aload_n 0, 1) := by decide +kernel
theorem dd_Model_drop_24 : decode bb_Model_drop 24 = .ok (.getfield 76, 3) := by decide +kernel
theorem dd_Model_drop_27 : decode bb_Model_drop 27 = .ok (.ifCond .le 5, 3) := by decide +kernel
theorem dd_Model_drop_30 : decode bb_Model_drop 30 = .ok (.iconst 0, 1) := by decide +kernel
theorem dd_Model_drop_31 : decode bb_Model_drop 31 = .ok (.ireturn, 1) := by decide +kernel
theorem dd_Model_drop_32 : decode bb_Model_drop 32 = .ok (.aload_n 0, 1) := by decide +kernel
theorem dd_Model_drop_33 : decode bb_Model_drop 33 = .ok (.dup, 1) := by decide +kernel
theorem dd_Model_drop_34 : decode bb_Model_drop 34 = .ok (.getfield 83, 3) := by decide +kernel
theorem dd_Model_drop_37 : decode bb_Model_drop 37 = .ok (.iconst 1, 1) := by decide +kernel
theorem dd_Model_drop_38 : decode bb_Model_drop 38 = .ok (.isub, 1) := by decide +kernel
theorem dd_Model_drop_39 : decode bb_Model_drop 39 = .ok (.putfield 83, 3) := by decide +kernel
theorem dd_Model_drop_42 : decode bb_Model_drop 42 = .ok (.iload_n 1, 1) := by decide +kernel
theorem dd_Model_drop_43 : decode bb_Model_drop 43 = .ok (.istore_n 2, 1) := by decide +kernel
theorem dd_Model_drop_44 : decode bb_Model_drop 44 = .ok (.iload_n 2, 1) := by decide +kernel
