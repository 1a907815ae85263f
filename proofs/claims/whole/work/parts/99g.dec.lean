theorem dd_Planner_init_0 : decode bb_Planner_init 0 = .ok (.aload_n 0, 1) := by decide +kernel
theorem dd_Planner_init_1 : decode bb_Planner_init 1 = .ok (.invokespecial 3, 3) := by decide +kernel
theorem dd_Planner_init_4 : decode bb_Planner_init 4 = .ok (.aload_n 0, 1) := by decide +kernel
theorem dd_Planner_init_5 : decode bb_Planner_init 5 = .ok (.new 9, 3) := by decide +kernel
theorem dd_Planner_init_8 : decode bb_Planner_init 8 = .ok (.dup, 1) := by decide +kernel
theorem dd_Planner_init_9 : decode bb_Planner_init 9 = .ok (.invokespecial 11, 3) := by decide +kernel
theorem dd_Planner_init_12 : decode bb_Planner_init 12 = .ok (.putfield 12, 3) := by decide +kernel
theorem dd_Planner_init_15 : decode bb_Planner_init 15 = .ok (.aload_n 0, 1) := by decide +kernel
theorem dd_Planner_init_16 : decode bb_Planner_init 16 = .ok (.new 16, 3) := by decide +kernel
theorem dd_Planner_init_19 : decode bb_Planner_init 19 = .ok (.dup, 1) := by decide +kernel
theorem dd_Planner_init_20 : decode bb_Planner_init 20 = .ok (.invokespecial 18, 3) := by decide +kernel
theorem dd_Planner_init_23 : decode bb_Planner_init 23 = .ok (.putfield 19, 3) := by decide +kernel
theorem dd_Planner_init_26 : decode bb_Planner_init 26 = .ok (.aload_n 0, 1) := by decide +kernel
theorem dd_Planner_init_27 : decode bb_Planner_init 27 = .ok (.new 23, 3) := by decide +kernel
theorem dd_Planner_init_30 : decode bb_Planner_init 30 = .ok (.dup, 1) := by decide +kernel
theorem dd_Planner_init_31 : decode bb_Planner_init 31 = .ok (.invokespecial 25, 3) := by decide +kernel
theorem dd_Planner_init_34 : decode bb_Planner_init 34 = .ok (.putfield 26, 3) := by decide +kernel
theorem dd_Planner_init_37 : decode bb_Planner_init 37 = .ok (.aload_n 0, 1) := by decide +kernel
theorem dd_Planner_init_38 : decode bb_Planner_init 38 = .ok (.new 30, 3) := by decide +kernel
theorem dd_Planner_init_41 : decode bb_Planner_init 41 = .ok (.dup, 1) := by decide +kernel
theorem dd_Planner_init_42 : decode bb_Planner_init 42 = .ok (.invokespecial 32, 3) := by decide +kernel
theorem dd_Planner_init_45 : decode bb_Planner_init 45 = .ok (.putfield 33, 3) := by decide +kernel
theorem dd_Planner_init_48 : decode bb_Planner_init 48 = .ok (.aload_n 0, 1) := by decide +kernel
theorem dd_Planner_init_49 : decode bb_Planner_init 49 = .ok (.new 37, 3) := by decide +kernel
theorem dd_Planner_init_52 : decode bb_Planner_init 52 = .ok (.dup, 1) := by decide +kernel
theorem dd_Planner_init_53 : decode bb_Planner_init 53 = .ok (.invokespecial 39, 3) := by decide +kernel
theorem dd_Planner_init_56 : decode bb_Planner_init 56 = .ok (.putfield 40, 3) := by decide +kernel
theorem dd_Planner_init_59 : decode bb_Planner_init 59 = .ok (.aload_n 0, 1) := by decide +kernel
theorem dd_Planner_init_60 : decode bb_Planner_init 60 = .ok (.new 44, 3) := by decide +kernel
theorem dd_Planner_init_63 : decode bb_Planner_init 63 = .ok (.dup, 1) := by decide +kernel
theorem dd_Planner_init_64 : decode bb_Planner_init 64 = .ok (.invokespecial 46, 3) := by decide +kernel
theorem dd_Planner_init_67 : decode bb_Planner_init 67 = .ok (.putfield 47, 3) := by decide +kernel
theorem dd_Planner_init_70 : decode bb_Planner_init 70 = .ok (.aload_n 0, 1) := by decide +kernel
theorem dd_Planner_init_71 : decode bb_Planner_init 71 = .ok (.iconst 4, 1) := by decide +kernel
theorem dd_Planner_init_72 : decode bb_Planner_init 72 = .ok (.newarray .int, 2) := by decide +kernel
theorem dd_Planner_init_74 : decode bb_Planner_init 74 = .ok (.putfield 51, 3) := by decide +kernel
theorem dd_Planner_init_77 : decode bb_Planner_init 77 = .ok (.aload_n 0, 1) := by decide +kernel
theorem dd_Planner_init_78 : decode bb_Planner_init 78 = .ok (.iconst 0, 1) := by decide +kernel
theorem dd_Planner_init_79 : decode bb_Planner_init 79 = .ok (.putfield 55, 3) := by decide +kernel
theorem dd_Planner_init_82 : decode bb_Planner_init 82 = .ok (.aload_n 0, 1) := by decide +kernel
theorem dd_Planner_init_83 : decode bb_Planner_init 83 = .ok (.iconst 0, 1) := by decide +kernel
theorem dd_Planner_init_84 : decode bb_Planner_init 84 = .ok (.putfield 59, 3) := by decide +kernel
theorem dd_Planner_init_87 : decode bb_Planner_init 87 = .ok (.aload_n 0, 1) := by decide +kernel
theorem dd_Planner_init_88 : decode bb_Planner_init 88 = .ok (.getfield 12, 3) := by decide +kernel
theorem dd_Planner_init_91 : decode bb_Planner_init 91 = .ok (.iconst 1, 1) := by decide +kernel
theorem dd_Planner_init_92 : decode bb_Planner_init 92 = .ok (.iconst 0, 1) := by decide +kernel
theorem dd_Planner_init_93 : decode bb_Planner_init 93 = .ok (.invokevirtual 62, 3) := by decide +kernel
theorem dd_Planner_init_96 : decode bb_Planner_init 96 = .ok (.return_, 1) := by decide +kernel
theorem dd_Planner_start_0 : decode bb_Planner_start 0 = .ok (.iload_n 1, 1) := by decide +kernel
theorem dd_Planner_start_1 : decode bb_Planner_start 1 = .ok (.iconst 1, 1) := by decide +kernel
theorem dd_Planner_start_2 : decode bb_Planner_start 2 = .ok (.if_icmp .lt 8, 3) := by decide +kernel
theorem dd_Planner_start_5 : decode bb_Planner_start 5 = .ok (.iload_n 1, 1) := by decide +kernel
theorem dd_Planner_start_6 : decode bb_Planner_start 6 = .ok (.iconst 4, 1) := by decide +kernel
theorem dd_Planner_start_7 : decode bb_Planner_start 7 = .ok (.if_icmp .le 13, 3) := by decide +kernel
theorem dd_Planner_start_10 : decode bb_Planner_start 10 = .ok (.new 66, 3) := by decide +kernel
theorem dd_Planner_start_13 : decode bb_Planner_start 13 = .ok (.dup, 1) := by decide +kernel
theorem dd_Planner_start_14 : decode bb_Planner_start 14 = .ok (.ldc 68, 2) := by decide +kernel
theorem dd_Planner_start_16 : decode bb_Planner_start 16 = .ok (.invokespecial 70, 3) := by decide +kernel
theorem dd_Planner_start_19 : decode bb_Planner_start 19 = .ok (.athrow, 1) := by decide +kernel
theorem dd_Planner_start_20 : decode bb_Planner_start 20 = .ok (.aload_n 0, 1) := by decide +kernel
theorem dd_Planner_start_21 : decode bb_Planner_start 21 = .ok (.getfield 12, 3) := by decide +kernel
theorem dd_Planner_start_24 : decode bb_Planner_start 24 = .ok (.iload_n 1, 1) := by decide +kernel
theorem dd_Planner_start_25 : decode bb_Planner_start 25 = .ok (.bipush 8, 2) := by decide +kernel
theorem dd_Planner_start_27 : decode bb_Planner_start 27 = .ok (.invokevirtual 62, 3) := by decide +kernel
theorem dd_Planner_start_30 : decode bb_Planner_start 30 = .ok (.aload_n 0, 1) := by decide +kernel
theorem dd_Planner_start_31 : decode bb_Planner_start 31 = .ok (.iconst 0, 1) := by decide +kernel
theorem dd_Planner_start_32 : decode bb_Planner_start 32 = .ok (.putfield 55, 3) := by decide +kernel
theorem dd_Planner_start_35 : decode bb_Planner_start 35 = .ok (.return_, 1) := by decide +kernel
theorem dd_Planner_amount_0 : decode bb_Planner_amount 0 = .ok (.aload_n 0, 1) := by decide +kernel
theorem dd_Planner_amount_1 : decode bb_Planner_amount 1 = .ok (.iload_n 1, 1) := by decide +kernel
theorem dd_Planner_amount_2 : decode bb_Planner_amount 2 = .ok (.invokevirtual 73, 3) := by decide +kernel
theorem dd_Planner_amount_5 : decode bb_Planner_amount 5 = .ok (.iload_n 2, 1) := by decide +kernel
theorem dd_Planner_amount_6 : decode bb_Planner_amount 6 = .ok (.bipush 20, 2) := by decide +kernel
theorem dd_Planner_amount_8 : decode bb_Planner_amount 8 = .ok (.invokestatic 77, 3) := by decide +kernel
theorem dd_Planner_amount_11 : decode bb_Planner_amount 11 = .ok (.ifCond .eq 17, 3) := by decide +kernel
theorem dd_Planner_amount_14 : decode bb_Planner_amount 14 = .ok (.iload_n 3, 1) := by decide +kernel
theorem dd_Planner_amount_15 : decode bb_Planner_amount 15 = .ok (.bipush 20, 2) := by decide +kernel
theorem dd_Planner_amount_17 : decode bb_Planner_amount 17 = .ok (.invokestatic 77, 3) := by decide +kernel
theorem dd_Planner_amount_20 : decode bb_Planner_amount 20 = .ok (.ifCond .eq 8, 3) := by decide +kernel
theorem dd_Planner_amount_23 : decode bb_Planner_amount 23 = .ok (.iload_n 2, 1) := by decide +kernel
theorem dd_Planner_amount_24 : decode bb_Planner_amount 24 = .ok (.iload_n 3, 1) := by decide +kernel
theorem dd_Planner_amount_25 : decode bb_Planner_amount 25 = .ok (.if_icmp .le 13, 3) := by decide +kernel
theorem dd_Planner_amount_28 : decode bb_Planner_amount 28 = .ok (.new 66, 3) := by decide +kernel
theorem dd_Planner_amount_31 : decode bb_Planner_amount 31 = .ok (.dup, 1) := by decide +kernel
theorem dd_Planner_amount_32 : decode bb_Planner_amount 32 = .ok (.ldc 81, 2) := by decide +kernel
theorem dd_Planner_amount_34 : decode bb_Planner_amount 34 = .ok (.invokespecial 70, 3) := by decide +kernel
theorem dd_Planner_amount_37 : decode bb_Planner_amount 37 = .ok (.athrow, 1) := by decide +kernel
theorem dd_Planner_amount_38 : decode bb_Planner_amount 38 = .ok (.iload 4, 2) := by decide +kernel
theorem dd_Planner_amount_40 : decode bb_Planner_amount 40 = .ok (.ifCond .eq 21, 3) := by decide +kernel
theorem dd_Planner_amount_43 : decode bb_Planner_amount 43 = .ok (.iload_n 3, 1) := by decide +kernel
theorem dd_Planner_amount_44 : decode bb_Planner_amount 44 = .ok (.iload_n 2, 1) := by decide +kernel
theorem dd_Planner_amount_45 : decode bb_Planner_amount 45 = .ok (.isub, 1) := by decide +kernel
theorem dd_Planner_amount_46 : decode bb_Planner_amount 46 = .ok (.bipush 8, 2) := by decide +kernel
theorem dd_Planner_amount_48 : decode bb_Planner_amount 48 = .ok (.if_icmp .le 13, 3) := by decide +kernel
theorem dd_Planner_amount_51 : decode bb_Planner_amount 51 = .ok (.new 66, 3) := by decide +kernel
theorem dd_Planner_amount_54 : decode bb_Planner_amount 54 = .ok (.dup, 1) := by decide +kernel
theorem dd_Planner_amount_55 : decode bb_Planner_amount 55 = .ok (.ldc 83, 2) := by decide +kernel
theorem dd_Planner_amount_57 : decode bb_Planner_amount 57 = .ok (.invokespecial 70, 3) := by decide +kernel
theorem dd_Planner_amount_60 : decode bb_Planner_amount 60 = .ok (.athrow, 1) := by decide +kernel
theorem dd_Planner_amount_61 : decode bb_Planner_amount 61 = .ok (.aload_n 0, 1) := by decide +kernel
theorem dd_Planner_amount_62 : decode bb_Planner_amount 62 = .ok (.getfield 12, 3) := by decide +kernel
theorem dd_Planner_amount_65 : decode bb_Planner_amount 65 = .ok (.getfield 85, 3) := by decide +kernel
theorem dd_Planner_amount_68 : decode bb_Planner_amount 68 = .ok (.iload_n 1, 1) := by decide +kernel
theorem dd_Planner_amount_69 : decode bb_Planner_amount 69 = .ok (.iload_n 2, 1) := by decide +kernel
theorem dd_Planner_amount_70 : decode bb_Planner_amount 70 = .ok (.iastore, 1) := by decide +kernel
theorem dd_Planner_amount_71 : decode bb_Planner_amount 71 = .ok (.aload_n 0, 1) := by decide +kernel
theorem dd_Planner_amount_72 : decode bb_Planner_amount 72 = .ok (.getfield 12, 3) := by decide +kernel
theorem dd_Planner_amount_75 : decode bb_Planner_amount 75 = .ok (.getfield 88, 3) := by decide +kernel
theorem dd_Planner_amount_78 : decode bb_Planner_amount 78 = .ok (.iload_n 1, 1) := by decide +kernel
theorem dd_Planner_amount_79 : decode bb_Planner_amount 79 = .ok (.iload_n 3, 1) := by decide +kernel
theorem dd_Planner_amount_80 : decode bb_Planner_amount 80 = .ok (.iastore, 1) := by decide +kernel
theorem dd_Planner_amount_81 : decode bb_Planner_amount 81 = .ok (.aload_n 0, 1) := by decide +kernel
theorem dd_Planner_amount_82 : decode bb_Planner_amount 82 = .ok (.getfield 12, 3) := by decide +kernel
theorem dd_Planner_amount_85 : decode bb_Planner_amount 85 = .ok (.getfield 91, 3) := by decide +kernel
theorem dd_Planner_amount_88 : decode bb_Planner_amount 88 = .ok (.iload_n 1, 1) := by decide +kernel
theorem dd_Planner_amount_89 : decode bb_Planner_amount 89 = .ok (.iload 4, 2) := by decide +kernel
theorem dd_Planner_amount_91 : decode bb_Planner_amount 91 = .ok (.bastore, 1) := by decide +kernel
theorem dd_Planner_amount_92 : decode bb_Planner_amount 92 = .ok (.aload_n 0, 1) := by decide +kernel
theorem dd_Planner_amount_93 : decode bb_Planner_amount 93 = .ok (.iconst 0, 1) := by decide +kernel
theorem dd_Planner_amount_94 : decode bb_Planner_amount 94 = .ok (.putfield 55, 3) := by decide +kernel
theorem dd_Planner_amount_97 : decode bb_Planner_amount 97 = .ok (.return_, 1) := by decide +kernel
theorem dd_Planner_cost_0 : decode bb_Planner_cost 0 = .ok (.aload_n 0, 1) := by decide +kernel
theorem dd_Planner_cost_1 : decode bb_Planner_cost 1 = .ok (.iload_n 1, 1) := by decide +kernel
theorem dd_Planner_cost_2 : decode bb_Planner_cost 2 = .ok (.invokevirtual 73, 3) := by decide +kernel
theorem dd_Planner_cost_5 : decode bb_Planner_cost 5 = .ok (.iload_n 2, 1) := by decide +kernel
theorem dd_Planner_cost_6 : decode bb_Planner_cost 6 = .ok (.bipush 9, 2) := by decide +kernel
theorem dd_Planner_cost_8 : decode bb_Planner_cost 8 = .ok (.invokestatic 77, 3) := by decide +kernel
theorem dd_Planner_cost_11 : decode bb_Planner_cost 11 = .ok (.ifCond .ne 13, 3) := by decide +kernel
theorem dd_Planner_cost_14 : decode bb_Planner_cost 14 = .ok (.new 66, 3) := by decide +kernel
theorem dd_Planner_cost_17 : decode bb_Planner_cost 17 = .ok (.dup, 1) := by decide +kernel
theorem dd_Planner_cost_18 : decode bb_Planner_cost 18 = .ok (.ldc 95, 2) := by decide +kernel
theorem dd_Planner_cost_20 : decode bb_Planner_cost 20 = .ok (.invokespecial 70, 3) := by decide +kernel
theorem dd_Planner_cost_23 : decode bb_Planner_cost 23 = .ok (.athrow, 1) := by decide +kernel
theorem dd_Planner_cost_24 : decode bb_Planner_cost 24 = .ok (.aload_n 0, 1) := by decide +kernel
theorem dd_Planner_cost_25 : decode bb_Planner_cost 25 = .ok (.getfield 12, 3) := by decide +kernel
theorem dd_Planner_cost_28 : decode bb_Planner_cost 28 = .ok (.getfield 97, 3) := by decide +kernel
theorem dd_Planner_cost_31 : decode bb_Planner_cost 31 = .ok (.iload_n 1, 1) := by decide +kernel
theorem dd_Planner_cost_32 : decode bb_Planner_cost 32 = .ok (.iload_n 2, 1) := by decide +kernel
theorem dd_Planner_cost_33 : decode bb_Planner_cost 33 = .ok (.iastore, 1) := by decide +kernel
theorem dd_Planner_cost_34 : decode bb_Planner_cost 34 = .ok (.aload_n 0, 1) := by decide +kernel
theorem dd_Planner_cost_35 : decode bb_Planner_cost 35 = .ok (.iconst 0, 1) := by decide +kernel
theorem dd_Planner_cost_36 : decode bb_Planner_cost 36 = .ok (.putfield 55, 3) := by decide +kernel
theorem dd_Planner_cost_39 : decode bb_Planner_cost 39 = .ok (.return_, 1) := by decide +kernel
theorem dd_Planner_limit_0 : decode bb_Planner_limit 0 = .ok (.aload_n 0, 1) := by decide +kernel
theorem dd_Planner_limit_1 : decode bb_Planner_limit 1 = .ok (.iconst 0, 1) := by decide +kernel
theorem dd_Planner_limit_2 : decode bb_Planner_limit 2 = .ok (.iload_n 1, 1) := by decide +kernel
theorem dd_Planner_limit_3 : decode bb_Planner_limit 3 = .ok (.invokevirtual 100, 3) := by decide +kernel
theorem dd_Planner_limit_6 : decode bb_Planner_limit 6 = .ok (.ifCond .eq 31, 3) := by decide +kernel
theorem dd_Planner_limit_9 : decode bb_Planner_limit 9 = .ok (.aload_n 0, 1) := by decide +kernel
theorem dd_Planner_limit_10 : decode bb_Planner_limit 10 = .ok (.iconst 1, 1) := by decide +kernel
theorem dd_Planner_limit_11 : decode bb_Planner_limit 11 = .ok (.iload_n 2, 1) := by decide +kernel
theorem dd_Planner_limit_12 : decode bb_Planner_limit 12 = .ok (.invokevirtual 100, 3) := by decide +kernel
theorem dd_Planner_limit_15 : decode bb_Planner_limit 15 = .ok (.ifCond .eq 22, 3) := by decide +kernel
theorem dd_Planner_limit_18 : decode bb_Planner_limit 18 = .ok (.aload_n 0, 1) := by decide +kernel
theorem dd_Planner_limit_19 : decode bb_Planner_limit 19 = .ok (.iconst 2, 1) := by decide +kernel
theorem dd_Planner_limit_20 : decode bb_Planner_limit 20 = .ok (.iload_n 3, 1) := by decide +kernel
theorem dd_Planner_limit_21 : decode bb_Planner_limit 21 = .ok (.invokevirtual 100, 3) := by decide +kernel
theorem dd_Planner_limit_24 : decode bb_Planner_limit 24 = .ok (.ifCond .eq 13, 3) := by decide +kernel
theorem dd_Planner_limit_27 : decode bb_Planner_limit 27 = .ok (.aload_n 0, 1) := by decide +kernel
theorem dd_Planner_limit_28 : decode bb_Planner_limit 28 = .ok (.iconst 3, 1) := by decide +kernel
theorem dd_Planner_limit_29 : decode bb_Planner_limit 29 = .ok (.iload 4, 2) := by decide +kernel
theorem dd_Planner_limit_31 : decode bb_Planner_limit 31 = .ok (.invokevirtual 100, 3) := by decide +kernel
theorem dd_Planner_limit_34 : decode bb_Planner_limit 34 = .ok (.ifCond .ne 13, 3) := by decide +kernel
theorem dd_Planner_limit_37 : decode bb_Planner_limit 37 = .ok (.new 66, 3) := by decide +kernel
theorem dd_Planner_limit_40 : decode bb_Planner_limit 40 = .ok (.dup, 1) := by decide +kernel
theorem dd_Planner_limit_41 : decode bb_Planner_limit 41 = .ok (.ldc 103, 2) := by decide +kernel
theorem dd_Planner_limit_43 : decode bb_Planner_limit 43 = .ok (.invokespecial 70, 3) := by decide +kernel
theorem dd_Planner_limit_46 : decode bb_Planner_limit 46 = .ok (.athrow, 1) := by decide +kernel
theorem dd_Planner_limit_47 : decode bb_Planner_limit 47 = .ok (.iload 5, 2) := by decide +kernel
theorem dd_Planner_limit_49 : decode bb_Planner_limit 49 = .ok (.bipush 99, 2) := by decide +kernel
theorem dd_Planner_limit_51 : decode bb_Planner_limit 51 = .ok (.invokestatic 77, 3) := by decide +kernel
theorem dd_Planner_limit_54 : decode bb_Planner_limit 54 = .ok (.ifCond .ne 13, 3) := by decide +kernel
theorem dd_Planner_limit_57 : decode bb_Planner_limit 57 = .ok (.new 66, 3) := by decide +kernel
theorem dd_Planner_limit_60 : decode bb_Planner_limit 60 = .ok (.dup, 1) := by decide +kernel
theorem dd_Planner_limit_61 : decode bb_Planner_limit 61 = .ok (.ldc 105, 2) := by decide +kernel
theorem dd_Planner_limit_63 : decode bb_Planner_limit 63 = .ok (.invokespecial 70, 3) := by decide +kernel
theorem dd_Planner_limit_66 : decode bb_Planner_limit 66 = .ok (.athrow, 1) := by decide +kernel
theorem dd_Planner_limit_67 : decode bb_Planner_limit 67 = .ok (.aload_n 0, 1) := by decide +kernel
theorem dd_Planner_limit_68 : decode bb_Planner_limit 68 = .ok (.getfield 12, 3) := by decide +kernel
theorem dd_Planner_limit_71 : decode bb_Planner_limit 71 = .ok (.getfield 107, 3) := by decide +kernel
theorem dd_Planner_limit_74 : decode bb_Planner_limit 74 = .ok (.bipush 6, 2) := by decide +kernel
theorem dd_Planner_limit_76 : decode bb_Planner_limit 76 = .ok (.if_icmp .lt 13, 3) := by decide +kernel
theorem dd_Planner_limit_79 : decode bb_Planner_limit 79 = .ok (.new 111, 3) := by decide +kernel
theorem dd_Planner_limit_82 : decode bb_Planner_limit 82 = .ok (.dup, 1) := by decide +kernel
theorem dd_Planner_limit_83 : decode bb_Planner_limit 83 = .ok (.ldc 113, 2) := by decide +kernel
theorem dd_Planner_limit_85 : decode bb_Planner_limit 85 = .ok (.invokespecial 115, 3) := by decide +kernel
theorem dd_Planner_limit_88 : decode bb_Planner_limit 88 = .ok (.athrow, 1) := by decide +kernel
theorem dd_Planner_limit_89 : decode bb_Planner_limit 89 = .ok (.aload_n 0, 1) := by decide +kernel
theorem dd_Planner_limit_90 : decode bb_Planner_limit 90 = .ok (.iload_n 1, 1) := by decide +kernel
theorem dd_Planner_limit_91 : decode bb_Planner_limit 91 = .ok (.iload_n 2, 1) := by decide +kernel
theorem dd_Planner_limit_92 : decode bb_Planner_limit 92 = .ok (.iload_n 3, 1) := by decide +kernel
theorem dd_Planner_limit_93 : decode bb_Planner_limit 93 = .ok (.iload 4, 2) := by decide +kernel
theorem dd_Planner_limit_95 : decode bb_Planner_limit 95 = .ok (.invokevirtual 116, 3) := by decide +kernel
theorem dd_Planner_limit_98 : decode bb_Planner_limit 98 = .ok (.aload_n 0, 1) := by decide +kernel
theorem dd_Planner_limit_99 : decode bb_Planner_limit 99 = .ok (.getfield 12, 3) := by decide +kernel
theorem dd_Planner_limit_102 : decode bb_Planner_limit 102 = .ok (.aload_n 0, 1) := by decide +kernel
theorem dd_Planner_limit_103 : decode bb_Planner_limit 103 = .ok (.getfield 51, 3) := by decide +kernel
theorem dd_Planner_limit_106 : decode bb_Planner_limit 106 = .ok (.iload 5, 2) := by decide +kernel
theorem dd_Planner_limit_108 : decode bb_Planner_limit 108 = .ok (.invokevirtual 120, 3) := by decide +kernel
theorem dd_Planner_limit_111 : decode bb_Planner_limit 111 = .ok (.aload_n 0, 1) := by decide +kernel
theorem dd_Planner_limit_112 : decode bb_Planner_limit 112 = .ok (.iconst 0, 1) := by decide +kernel
theorem dd_Planner_limit_113 : decode bb_Planner_limit 113 = .ok (.putfield 55, 3) := by decide +kernel
theorem dd_Planner_limit_116 : decode bb_Planner_limit 116 = .ok (.aload_n 0, 1) := by decide +kernel
theorem dd_Planner_limit_117 : decode bb_Planner_limit 117 = .ok (.getfield 12, 3) := by decide +kernel
theorem dd_Planner_limit_120 : decode bb_Planner_limit 120 = .ok (.getfield 107, 3) := by decide +kernel
theorem dd_Planner_limit_123 : decode bb_Planner_limit 123 = .ok (.iconst 1, 1) := by decide +kernel
theorem dd_Planner_limit_124 : decode bb_Planner_limit 124 = .ok (.isub, 1) := by decide +kernel
theorem dd_Planner_limit_125 : decode bb_Planner_limit 125 = .ok (.ireturn, 1) := by decide +kernel
theorem dd_Planner_drop_0 : decode bb_Planner_drop 0 = .ok (.iload_n 1, 1) := by decide +kernel
theorem dd_Planner_drop_1 : decode bb_Planner_drop 1 = .ok (.ifCond .lt 14, 3) := by decide +kernel
theorem dd_Planner_drop_4 : decode bb_Planner_drop 4 = .ok (.iload_n 1, 1) := by decide +kernel
theorem dd_Planner_drop_5 : decode bb_Planner_drop 5 = .ok (.aload_n 0, 1) := by decide +kernel
theorem dd_Planner_drop_6 : decode bb_Planner_drop 6 = .ok (.getfield 12, 3) := by decide +kernel
theorem dd_Planner_drop_9 : decode bb_Planner_drop 9 = .ok (.getfield 107, 3) := by decide +kernel
theorem dd_Planner_drop_12 : decode bb_Planner_drop 12 = .ok (.if_icmp .lt 13, 3) := by decide +kernel
theorem dd_Planner_drop_15 : decode bb_Planner_drop 15 = .ok (.new 124, 3) := by decide +kernel
theorem dd_Planner_drop_18 : decode bb_Planner_drop 18 = .ok (.dup, 1) := by decide +kernel
theorem dd_Planner_drop_19 : decode bb_Planner_drop 19 = .ok (.ldc 126, 2) := by decide +kernel
theorem dd_Planner_drop_21 : decode bb_Planner_drop 21 = .ok (.invokespecial 128, 3) := by decide +kernel
theorem dd_Planner_drop_24 : decode bb_Planner_drop 24 = .ok (.athrow, 1) := by decide +kernel
theorem dd_Planner_drop_25 : decode bb_Planner_drop 25 = .ok (.aload_n 0, 1) := by decide +kernel
theorem dd_Planner_drop_26 : decode bb_Planner_drop 26 = .ok (.getfield 12, 3) := by decide +kernel
theorem dd_Planner_drop_29 : decode bb_Planner_drop 29 = .ok (.iload_n 1, 1) := by decide +kernel
theorem dd_Planner_drop_30 : decode bb_Planner_drop 30 = .ok (.invokevirtual 129, 3) := by decide +kernel
theorem dd_Planner_drop_33 : decode bb_Planner_drop 33 = .ok (.aload_n 0, 1) := by decide +kernel
theorem dd_Planner_drop_34 : decode bb_Planner_drop 34 = .ok (.iconst 0, 1) := by decide +kernel
theorem dd_Planner_drop_35 : decode bb_Planner_drop 35 = .ok (.putfield 55, 3) := by decide +kernel
theorem dd_Planner_drop_38 : decode bb_Planner_drop 38 = .ok (.aload_n 0, 1) := by decide +kernel
theorem dd_Planner_drop_39 : decode bb_Planner_drop 39 = .ok (.getfield 12, 3) := by decide +kernel
theorem dd_Planner_drop_42 : decode bb_Planner_drop 42 = .ok (.getfield 107, 3) := by decide +kernel
theorem dd_Planner_drop_45 : decode bb_Planner_drop 45 = .ok (.ireturn, 1) := by decide +kernel
theorem dd_Planner_solve_0 : decode bb_Planner_solve 0 = .ok (.aload_n 0, 1) := by decide +kernel
theorem dd_Planner_solve_1 : decode bb_Planner_solve 1 = .ok (.getfield 19, 3) := by decide +kernel
theorem dd_Planner_solve_4 : decode bb_Planner_solve 4 = .ok (.aload_n 0, 1) := by decide +kernel
theorem dd_Planner_solve_5 : decode bb_Planner_solve 5 = .ok (.getfield 12, 3) := by decide +kernel
theorem dd_Planner_solve_8 : decode bb_Planner_solve 8 = .ok (.invokevirtual 132, 3) := by decide +kernel
theorem dd_Planner_solve_11 : decode bb_Planner_solve 11 = .ok (.aload_n 0, 1) := by decide +kernel
theorem dd_Planner_solve_12 : decode bb_Planner_solve 12 = .ok (.getfield 26, 3) := by decide +kernel
theorem dd_Planner_solve_15 : decode bb_Planner_solve 15 = .ok (.aload_n 0, 1) := by decide +kernel
theorem dd_Planner_solve_16 : decode bb_Planner_solve 16 = .ok (.getfield 12, 3) := by decide +kernel
theorem dd_Planner_solve_19 : decode bb_Planner_solve 19 = .ok (.aload_n 0, 1) := by decide +kernel
theorem dd_Planner_solve_20 : decode bb_Planner_solve 20 = .ok (.getfield 19, 3) := by decide +kernel
theorem dd_Planner_solve_23 : decode bb_Planner_solve 23 = .ok (.iload_n 1, 1) := by decide +kernel
theorem dd_Planner_solve_24 : decode bb_Planner_solve 24 = .ok (.invokevirtual 136, 3) := by decide +kernel
theorem dd_Planner_solve_27 : decode bb_Planner_solve 27 = .ok (.aload_n 0, 1) := by decide +kernel
theorem dd_Planner_solve_28 : decode bb_Planner_solve 28 = .ok (.iconst 1, 1) := by decide +kernel
theorem dd_Planner_solve_29 : decode bb_Planner_solve 29 = .ok (.putfield 55, 3) := by decide +kernel
theorem dd_Planner_solve_32 : decode bb_Planner_solve 32 = .ok (.aload_n 0, 1) := by decide +kernel
theorem dd_Planner_solve_33 : decode bb_Planner_solve 33 = .ok (.iload_n 1, 1) := by decide +kernel
theorem dd_Planner_solve_34 : decode bb_Planner_solve 34 = .ok (.putfield 59, 3) := by decide +kernel
theorem dd_Planner_solve_37 : decode bb_Planner_solve 37 = .ok (.aload_n 0, 1) := by decide +kernel
theorem dd_Planner_solve_38 : decode bb_Planner_solve 38 = .ok (.getfield 26, 3) := by decide +kernel
theorem dd_Planner_solve_41 : decode bb_Planner_solve 41 = .ok (.getfield 140, 3) := by decide +kernel
theorem dd_Planner_solve_44 : decode bb_Planner_solve 44 = .ok (.ireturn, 1) := by decide +kernel
theorem dd_Planner_total_0 : decode bb_Planner_total 0 = .ok (.iload_n 1, 1) := by decide +kernel
theorem dd_Planner_total_1 : decode bb_Planner_total 1 = .ok (.invokestatic 143, 3) := by decide +kernel
theorem dd_Planner_total_4 : decode bb_Planner_total 4 = .ok (.aload_n 0, 1) := by decide +kernel
theorem dd_Planner_total_5 : decode bb_Planner_total 5 = .ok (.invokevirtual 146, 3) := by decide +kernel
theorem dd_Planner_total_8 : decode bb_Planner_total 8 = .ok (.aload_n 0, 1) := by decide +kernel
theorem dd_Planner_total_9 : decode bb_Planner_total 9 = .ok (.getfield 26, 3) := by decide +kernel
theorem dd_Planner_total_12 : decode bb_Planner_total 12 = .ok (.getfield 149, 3) := by decide +kernel
theorem dd_Planner_total_15 : decode bb_Planner_total 15 = .ok (.aload_n 0, 1) := by decide +kernel
theorem dd_Planner_total_16 : decode bb_Planner_total 16 = .ok (.getfield 26, 3) := by decide +kernel
theorem dd_Planner_total_19 : decode bb_Planner_total 19 = .ok (.getfield 152, 3) := by decide +kernel
theorem dd_Planner_total_22 : decode bb_Planner_total 22 = .ok (.iload_n 1, 1) := by decide +kernel
theorem dd_Planner_total_23 : decode bb_Planner_total 23 = .ok (.invokestatic 155, 3) := by decide +kernel
theorem dd_Planner_total_26 : decode bb_Planner_total 26 = .ok (.ireturn, 1) := by decide +kernel
theorem dd_Planner_plan_0 : decode bb_Planner_plan 0 = .ok (.aload_n 0, 1) := by decide +kernel
theorem dd_Planner_plan_1 : decode bb_Planner_plan 1 = .ok (.iload_n 1, 1) := by decide +kernel
theorem dd_Planner_plan_2 : decode bb_Planner_plan 2 = .ok (.invokevirtual 73, 3) := by decide +kernel
theorem dd_Planner_plan_5 : decode bb_Planner_plan 5 = .ok (.iload_n 2, 1) := by decide +kernel
theorem dd_Planner_plan_6 : decode bb_Planner_plan 6 = .ok (.invokestatic 143, 3) := by decide +kernel
theorem dd_Planner_plan_9 : decode bb_Planner_plan 9 = .ok (.aload_n 0, 1) := by decide +kernel
theorem dd_Planner_plan_10 : decode bb_Planner_plan 10 = .ok (.invokevirtual 146, 3) := by decide +kernel
theorem dd_Planner_plan_13 : decode bb_Planner_plan 13 = .ok (.aload_n 0, 1) := by decide +kernel
theorem dd_Planner_plan_14 : decode bb_Planner_plan 14 = .ok (.getfield 26, 3) := by decide +kernel
theorem dd_Planner_plan_17 : decode bb_Planner_plan 17 = .ok (.getfield 159, 3) := by decide +kernel
theorem dd_Planner_plan_20 : decode bb_Planner_plan 20 = .ok (.iload_n 1, 1) := by decide +kernel
theorem dd_Planner_plan_21 : decode bb_Planner_plan 21 = .ok (.iaload, 1) := by decide +kernel
theorem dd_Planner_plan_22 : decode bb_Planner_plan 22 = .ok (.aload_n 0, 1) := by decide +kernel
theorem dd_Planner_plan_23 : decode bb_Planner_plan 23 = .ok (.getfield 26, 3) := by decide +kernel
theorem dd_Planner_plan_26 : decode bb_Planner_plan 26 = .ok (.getfield 152, 3) := by decide +kernel
theorem dd_Planner_plan_29 : decode bb_Planner_plan 29 = .ok (.iload_n 2, 1) := by decide +kernel
theorem dd_Planner_plan_30 : decode bb_Planner_plan 30 = .ok (.invokestatic 155, 3) := by decide +kernel
theorem dd_Planner_plan_33 : decode bb_Planner_plan 33 = .ok (.ireturn, 1) := by decide +kernel
theorem dd_Planner_keeps_0 : decode bb_Planner_keeps 0 = .ok (.iload 5, 2) := by decide +kernel
theorem dd_Planner_keeps_2 : decode bb_Planner_keeps 2 = .ok (.iconst 1, 1) := by decide +kernel
theorem dd_Planner_keeps_3 : decode bb_Planner_keeps 3 = .ok (.if_icmp .lt 11, 3) := by decide +kernel
theorem dd_Planner_keeps_6 : decode bb_Planner_keeps 6 = .ok (.iload 5, 2) := by decide +kernel
theorem dd_Planner_keeps_8 : decode bb_Planner_keeps 8 = .ok (.sipush 1000, 3) := by decide +kernel
theorem dd_Planner_keeps_11 : decode bb_Planner_keeps 11 = .ok (.if_icmp .le 13, 3) := by decide +kernel
theorem dd_Planner_keeps_14 : decode bb_Planner_keeps 14 = .ok (.new 66, 3) := by decide +kernel
theorem dd_Planner_keeps_17 : decode bb_Planner_keeps 17 = .ok (.dup, 1) := by decide +kernel
theorem dd_Planner_keeps_18 : decode bb_Planner_keeps 18 = .ok (.ldc 162, 2) := by decide +kernel
theorem dd_Planner_keeps_20 : decode bb_Planner_keeps 20 = .ok (.invokespecial 70, 3) := by decide +kernel
theorem dd_Planner_keeps_23 : decode bb_Planner_keeps 23 = .ok (.athrow, 1) := by decide +kernel
theorem dd_Planner_keeps_24 : decode bb_Planner_keeps 24 = .ok (.iload_n 1, 1) := by decide +kernel
theorem dd_Planner_keeps_25 : decode bb_Planner_keeps 25 = .ok (.sipush 20000, 3) := by decide +kernel
theorem dd_Planner_keeps_28 : decode bb_Planner_keeps 28 = .ok (.invokestatic 77, 3) := by decide +kernel
theorem dd_Planner_keeps_31 : decode bb_Planner_keeps 31 = .ok (.ifCond .eq 34, 3) := by decide +kernel
theorem dd_Planner_keeps_34 : decode bb_Planner_keeps 34 = .ok (.iload_n 2, 1) := by decide +kernel
theorem dd_Planner_keeps_35 : decode bb_Planner_keeps 35 = .ok (.sipush 20000, 3) := by decide +kernel
theorem dd_Planner_keeps_38 : decode bb_Planner_keeps 38 = .ok (.invokestatic 77, 3) := by decide +kernel
theorem dd_Planner_keeps_41 : decode bb_Planner_keeps 41 = .ok (.ifCond .eq 24, 3) := by decide +kernel
theorem dd_Planner_keeps_44 : decode bb_Planner_keeps 44 = .ok (.iload_n 3, 1) := by decide +kernel
theorem dd_Planner_keeps_45 : decode bb_Planner_keeps 45 = .ok (.sipush 20000, 3) := by decide +kernel
theorem dd_Planner_keeps_48 : decode bb_Planner_keeps 48 = .ok (.invokestatic 77, 3) := by decide +kernel
theorem dd_Planner_keeps_51 : decode bb_Planner_keeps 51 = .ok (.ifCond .eq 14, 3) := by decide +kernel
theorem dd_Planner_keeps_54 : decode bb_Planner_keeps 54 = .ok (.iload 4, 2) := by decide +kernel
theorem dd_Planner_keeps_56 : decode bb_Planner_keeps 56 = .ok (.sipush 20000, 3) := by decide +kernel
theorem dd_Planner_keeps_59 : decode bb_Planner_keeps 59 = .ok (.invokestatic 77, 3) := by decide +kernel
theorem dd_Planner_keeps_62 : decode bb_Planner_keeps 62 = .ok (.ifCond .ne 13, 3) := by decide +kernel
theorem dd_Planner_keeps_65 : decode bb_Planner_keeps 65 = .ok (.new 66, 3) := by decide +kernel
theorem dd_Planner_keeps_68 : decode bb_Planner_keeps 68 = .ok (.dup, 1) := by decide +kernel
theorem dd_Planner_keeps_69 : decode bb_Planner_keeps 69 = .ok (.ldc 164, 2) := by decide +kernel
theorem dd_Planner_keeps_71 : decode bb_Planner_keeps 71 = .ok (.invokespecial 70, 3) := by decide +kernel
theorem dd_Planner_keeps_74 : decode bb_Planner_keeps 74 = .ok (.athrow, 1) := by decide +kernel
theorem dd_Planner_keeps_75 : decode bb_Planner_keeps 75 = .ok (.aload_n 0, 1) := by decide +kernel
theorem dd_Planner_keeps_76 : decode bb_Planner_keeps 76 = .ok (.iload_n 1, 1) := by decide +kernel
theorem dd_Planner_keeps_77 : decode bb_Planner_keeps 77 = .ok (.iload_n 2, 1) := by decide +kernel
theorem dd_Planner_keeps_78 : decode bb_Planner_keeps 78 = .ok (.iload_n 3, 1) := by decide +kernel
theorem dd_Planner_keeps_79 : decode bb_Planner_keeps 79 = .ok (.iload 4, 2) := by decide +kernel
theorem dd_Planner_keeps_81 : decode bb_Planner_keeps 81 = .ok (.invokevirtual 116, 3) := by decide +kernel
theorem dd_Planner_keeps_84 : decode bb_Planner_keeps 84 = .ok (.aload_n 0, 1) := by decide +kernel
theorem dd_Planner_keeps_85 : decode bb_Planner_keeps 85 = .ok (.getfield 12, 3) := by decide +kernel
theorem dd_Planner_keeps_88 : decode bb_Planner_keeps 88 = .ok (.aload_n 0, 1) := by decide +kernel
theorem dd_Planner_keeps_89 : decode bb_Planner_keeps 89 = .ok (.getfield 51, 3) := by decide +kernel
theorem dd_Planner_keeps_92 : decode bb_Planner_keeps 92 = .ok (.iload 5, 2) := by decide +kernel
theorem dd_Planner_keeps_94 : decode bb_Planner_keeps 94 = .ok (.invokevirtual 166, 3) := by decide +kernel
theorem dd_Planner_keeps_97 : decode bb_Planner_keeps 97 = .ok (.ifCond .eq 23, 3) := by decide +kernel
theorem dd_Planner_keeps_100 : decode bb_Planner_keeps 100 = .ok (.aload_n 0, 1) := by decide +kernel
theorem dd_Planner_keeps_101 : decode bb_Planner_keeps 101 = .ok (.getfield 12, 3) := by decide +kernel
theorem dd_Planner_keeps_104 : decode bb_Planner_keeps 104 = .ok (.aload_n 0, 1) := by decide +kernel
theorem dd_Planner_keeps_105 : decode bb_Planner_keeps 105 = .ok (.getfield 51, 3) := by decide +kernel
theorem dd_Planner_keeps_108 : decode bb_Planner_keeps 108 = .ok (.iload 5, 2) := by decide +kernel
theorem dd_Planner_keeps_110 : decode bb_Planner_keeps 110 = .ok (.invokevirtual 170, 3) := by decide +kernel
theorem dd_Planner_keeps_113 : decode bb_Planner_keeps 113 = .ok (.ifCond .eq 7, 3) := by decide +kernel
theorem dd_Planner_keeps_116 : decode bb_Planner_keeps 116 = .ok (.iconst 1, 1) := by decide +kernel
theorem dd_Planner_keeps_117 : decode bb_Planner_keeps 117 = .ok (.goto 4, 3) := by decide +kernel
theorem dd_Planner_keeps_120 : decode bb_Planner_keeps 120 = .ok (.iconst 0, 1) := by decide +kernel
theorem dd_Planner_keeps_121 : decode bb_Planner_keeps 121 = .ok (.ireturn, 1) := by decide +kernel
theorem dd_Planner_fork_0 : decode bb_Planner_fork 0 = .ok (.iload_n 1, 1) := by decide +kernel
theorem dd_Planner_fork_1 : decode bb_Planner_fork 1 = .ok (.invokestatic 173, 3) := by decide +kernel
theorem dd_Planner_fork_4 : decode bb_Planner_fork 4 = .ok (.iload 4, 2) := by decide +kernel
theorem dd_Planner_fork_6 : decode bb_Planner_fork 6 = .ok (.invokestatic 173, 3) := by decide +kernel
theorem dd_Planner_fork_9 : decode bb_Planner_fork 9 = .ok (.iload 5, 2) := by decide +kernel
theorem dd_Planner_fork_11 : decode bb_Planner_fork 11 = .ok (.invokestatic 173, 3) := by decide +kernel
theorem dd_Planner_fork_14 : decode bb_Planner_fork 14 = .ok (.iload 4, 2) := by decide +kernel
theorem dd_Planner_fork_16 : decode bb_Planner_fork 16 = .ok (.iload_n 1, 1) := by decide +kernel
theorem dd_Planner_fork_17 : decode bb_Planner_fork 17 = .ok (.if_icmp .le 9, 3) := by decide +kernel
theorem dd_Planner_fork_20 : decode bb_Planner_fork 20 = .ok (.iload 5, 2) := by decide +kernel
theorem dd_Planner_fork_22 : decode bb_Planner_fork 22 = .ok (.iload_n 1, 1) := by decide +kernel
theorem dd_Planner_fork_23 : decode bb_Planner_fork 23 = .ok (.if_icmp .gt 13, 3) := by decide +kernel
theorem dd_Planner_fork_26 : decode bb_Planner_fork 26 = .ok (.new 124, 3) := by decide +kernel
theorem dd_Planner_fork_29 : decode bb_Planner_fork 29 = .ok (.dup, 1) := by decide +kernel
theorem dd_Planner_fork_30 : decode bb_Planner_fork 30 = .ok (.ldc 176, 2) := by decide +kernel
theorem dd_Planner_fork_32 : decode bb_Planner_fork 32 = .ok (.invokespecial 128, 3) := by decide +kernel
theorem dd_Planner_fork_35 : decode bb_Planner_fork 35 = .ok (.athrow, 1) := by decide +kernel
theorem dd_Planner_fork_36 : decode bb_Planner_fork 36 = .ok (.iload_n 2, 1) := by decide +kernel
theorem dd_Planner_fork_37 : decode bb_Planner_fork 37 = .ok (.ifCond .lt 17, 3) := by decide +kernel
theorem dd_Planner_fork_40 : decode bb_Planner_fork 40 = .ok (.iload_n 2, 1) := by decide +kernel
theorem dd_Planner_fork_41 : decode bb_Planner_fork 41 = .ok (.iconst 4, 1) := by decide +kernel
theorem dd_Planner_fork_42 : decode bb_Planner_fork 42 = .ok (.if_icmp .ge 12, 3) := by decide +kernel
theorem dd_Planner_fork_45 : decode bb_Planner_fork 45 = .ok (.iload_n 3, 1) := by decide +kernel
theorem dd_Planner_fork_46 : decode bb_Planner_fork 46 = .ok (.bipush 20, 2) := by decide +kernel
theorem dd_Planner_fork_48 : decode bb_Planner_fork 48 = .ok (.invokestatic 77, 3) := by decide +kernel
theorem dd_Planner_fork_51 : decode bb_Planner_fork 51 = .ok (.ifCond .ne 13, 3) := by decide +kernel
theorem dd_Planner_fork_54 : decode bb_Planner_fork 54 = .ok (.new 66, 3) := by decide +kernel
theorem dd_Planner_fork_57 : decode bb_Planner_fork 57 = .ok (.dup, 1) := by decide +kernel
theorem dd_Planner_fork_58 : decode bb_Planner_fork 58 = .ok (.ldc 178, 2) := by decide +kernel
theorem dd_Planner_fork_60 : decode bb_Planner_fork 60 = .ok (.invokespecial 70, 3) := by decide +kernel
theorem dd_Planner_fork_63 : decode bb_Planner_fork 63 = .ok (.athrow, 1) := by decide +kernel
theorem dd_Planner_fork_64 : decode bb_Planner_fork 64 = .ok (.aload_n 0, 1) := by decide +kernel
theorem dd_Planner_fork_65 : decode bb_Planner_fork 65 = .ok (.getfield 33, 3) := by decide +kernel
theorem dd_Planner_fork_68 : decode bb_Planner_fork 68 = .ok (.iload_n 1, 1) := by decide +kernel
theorem dd_Planner_fork_69 : decode bb_Planner_fork 69 = .ok (.iload_n 2, 1) := by decide +kernel
theorem dd_Planner_fork_70 : decode bb_Planner_fork 70 = .ok (.iload_n 3, 1) := by decide +kernel
theorem dd_Planner_fork_71 : decode bb_Planner_fork 71 = .ok (.iload 4, 2) := by decide +kernel
theorem dd_Planner_fork_73 : decode bb_Planner_fork 73 = .ok (.iload 5, 2) := by decide +kernel
theorem dd_Planner_fork_75 : decode bb_Planner_fork 75 = .ok (.invokevirtual 180, 3) := by decide +kernel
theorem dd_Planner_fork_78 : decode bb_Planner_fork 78 = .ok (.return_, 1) := by decide +kernel
theorem dd_Planner_end_0 : decode bb_Planner_end 0 = .ok (.iload_n 1, 1) := by decide +kernel
theorem dd_Planner_end_1 : decode bb_Planner_end 1 = .ok (.invokestatic 173, 3) := by decide +kernel
theorem dd_Planner_end_4 : decode bb_Planner_end 4 = .ok (.iload_n 2, 1) := by decide +kernel
theorem dd_Planner_end_5 : decode bb_Planner_end 5 = .ok (.invokestatic 184, 3) := by decide +kernel
theorem dd_Planner_end_8 : decode bb_Planner_end 8 = .ok (.ifCond .eq 50, 3) := by decide +kernel
theorem dd_Planner_end_11 : decode bb_Planner_end 11 = .ok (.iload_n 3, 1) := by decide +kernel
theorem dd_Planner_end_12 : decode bb_Planner_end 12 = .ok (.invokestatic 184, 3) := by decide +kernel
theorem dd_Planner_end_15 : decode bb_Planner_end 15 = .ok (.ifCond .eq 43, 3) := by decide +kernel
theorem dd_Planner_end_18 : decode bb_Planner_end 18 = .ok (.iload 4, 2) := by decide +kernel
theorem dd_Planner_end_20 : decode bb_Planner_end 20 = .ok (.invokestatic 184, 3) := by decide +kernel
theorem dd_Planner_end_23 : decode bb_Planner_end 23 = .ok (.ifCond .eq 35, 3) := by decide +kernel
theorem dd_Planner_end_26 : decode bb_Planner_end 26 = .ok (.iload 5, 2) := by decide +kernel
theorem dd_Planner_end_28 : decode bb_Planner_end 28 = .ok (.invokestatic 184, 3) := by decide +kernel
theorem dd_Planner_end_31 : decode bb_Planner_end 31 = .ok (.ifCond .eq 27, 3) := by decide +kernel
theorem dd_Planner_end_34 : decode bb_Planner_end 34 = .ok (.iload 6, 2) := by decide +kernel
theorem dd_Planner_end_36 : decode bb_Planner_end 36 = .ok (.invokestatic 184, 3) := by decide +kernel
theorem dd_Planner_end_39 : decode bb_Planner_end 39 = .ok (.ifCond .eq 19, 3) := by decide +kernel
theorem dd_Planner_end_42 : decode bb_Planner_end 42 = .ok (.iload 7, 2) := by decide +kernel
theorem dd_Planner_end_44 : decode bb_Planner_end 44 = .ok (.invokestatic 184, 3) := by decide +kernel
theorem dd_Planner_end_47 : decode bb_Planner_end 47 = .ok (.ifCond .eq 11, 3) := by decide +kernel
theorem dd_Planner_end_50 : decode bb_Planner_end 50 = .ok (.iload 8, 2) := by decide +kernel
theorem dd_Planner_end_52 : decode bb_Planner_end 52 = .ok (.invokestatic 184, 3) := by decide +kernel
theorem dd_Planner_end_55 : decode bb_Planner_end 55 = .ok (.ifCond .ne 13, 3) := by decide +kernel
theorem dd_Planner_end_58 : decode bb_Planner_end 58 = .ok (.new 66, 3) := by decide +kernel
theorem dd_Planner_end_61 : decode bb_Planner_end 61 = .ok (.dup, 1) := by decide +kernel
theorem dd_Planner_end_62 : decode bb_Planner_end 62 = .ok (.ldc 188, 2) := by decide +kernel
theorem dd_Planner_end_64 : decode bb_Planner_end 64 = .ok (.invokespecial 70, 3) := by decide +kernel
theorem dd_Planner_end_67 : decode bb_Planner_end 67 = .ok (.athrow, 1) := by decide +kernel
theorem dd_Planner_end_68 : decode bb_Planner_end 68 = .ok (.aload_n 0, 1) := by decide +kernel
theorem dd_Planner_end_69 : decode bb_Planner_end 69 = .ok (.getfield 33, 3) := by decide +kernel
theorem dd_Planner_end_72 : decode bb_Planner_end 72 = .ok (.iload_n 1, 1) := by decide +kernel
theorem dd_Planner_end_73 : decode bb_Planner_end 73 = .ok (.iload_n 2, 1) := by decide +kernel
theorem dd_Planner_end_74 : decode bb_Planner_end 74 = .ok (.invokevirtual 190, 3) := by decide +kernel
theorem dd_Planner_end_77 : decode bb_Planner_end 77 = .ok (.aload_n 0, 1) := by decide +kernel
theorem dd_Planner_end_78 : decode bb_Planner_end 78 = .ok (.getfield 33, 3) := by decide +kernel
theorem dd_Planner_end_81 : decode bb_Planner_end 81 = .ok (.iload_n 1, 1) := by decide +kernel
theorem dd_Planner_end_82 : decode bb_Planner_end 82 = .ok (.iconst 0, 1) := by decide +kernel
theorem dd_Planner_end_83 : decode bb_Planner_end 83 = .ok (.iload_n 3, 1) := by decide +kernel
theorem dd_Planner_end_84 : decode bb_Planner_end 84 = .ok (.iload 4, 2) := by decide +kernel
theorem dd_Planner_end_86 : decode bb_Planner_end 86 = .ok (.iload 5, 2) := by decide +kernel
theorem dd_Planner_end_88 : decode bb_Planner_end 88 = .ok (.invokevirtual 193, 3) := by decide +kernel
theorem dd_Planner_end_91 : decode bb_Planner_end 91 = .ok (.aload_n 0, 1) := by decide +kernel
theorem dd_Planner_end_92 : decode bb_Planner_end 92 = .ok (.getfield 33, 3) := by decide +kernel
theorem dd_Planner_end_95 : decode bb_Planner_end 95 = .ok (.iload_n 1, 1) := by decide +kernel
theorem dd_Planner_end_96 : decode bb_Planner_end 96 = .ok (.iconst 3, 1) := by decide +kernel
theorem dd_Planner_end_97 : decode bb_Planner_end 97 = .ok (.iload 6, 2) := by decide +kernel
theorem dd_Planner_end_99 : decode bb_Planner_end 99 = .ok (.iload 7, 2) := by decide +kernel
theorem dd_Planner_end_101 : decode bb_Planner_end 101 = .ok (.iload 8, 2) := by decide +kernel
theorem dd_Planner_end_103 : decode bb_Planner_end 103 = .ok (.invokevirtual 193, 3) := by decide +kernel
theorem dd_Planner_end_106 : decode bb_Planner_end 106 = .ok (.return_, 1) := by decide +kernel
theorem dd_Planner_clear_0 : decode bb_Planner_clear 0 = .ok (.iload_n 1, 1) := by decide +kernel
theorem dd_Planner_clear_1 : decode bb_Planner_clear 1 = .ok (.invokestatic 173, 3) := by decide +kernel
theorem dd_Planner_clear_4 : decode bb_Planner_clear 4 = .ok (.aload_n 0, 1) := by decide +kernel
theorem dd_Planner_clear_5 : decode bb_Planner_clear 5 = .ok (.getfield 33, 3) := by decide +kernel
theorem dd_Planner_clear_8 : decode bb_Planner_clear 8 = .ok (.iload_n 1, 1) := by decide +kernel
theorem dd_Planner_clear_9 : decode bb_Planner_clear 9 = .ok (.invokevirtual 196, 3) := by decide +kernel
theorem dd_Planner_clear_12 : decode bb_Planner_clear 12 = .ok (.return_, 1) := by decide +kernel
theorem dd_Planner_sound_0 : decode bb_Planner_sound 0 = .ok (.iload_n 1, 1) := by decide +kernel
theorem dd_Planner_sound_1 : decode bb_Planner_sound 1 = .ok (.ldc 199, 2) := by decide +kernel
theorem dd_Planner_sound_3 : decode bb_Planner_sound 3 = .ok (.invokestatic 77, 3) := by decide +kernel
theorem dd_Planner_sound_6 : decode bb_Planner_sound 6 = .ok (.ifCond .eq 14, 3) := by decide +kernel
theorem dd_Planner_sound_9 : decode bb_Planner_sound 9 = .ok (.iload_n 2, 1) := by decide +kernel
theorem dd_Planner_sound_10 : decode bb_Planner_sound 10 = .ok (.iconst 1, 1) := by decide +kernel
theorem dd_Planner_sound_11 : decode bb_Planner_sound 11 = .ok (.if_icmp .lt 9, 3) := by decide +kernel
theorem dd_Planner_sound_14 : decode bb_Planner_sound 14 = .ok (.iload_n 2, 1) := by decide +kernel
theorem dd_Planner_sound_15 : decode bb_Planner_sound 15 = .ok (.ldc 199, 2) := by decide +kernel
theorem dd_Planner_sound_17 : decode bb_Planner_sound 17 = .ok (.if_icmp .le 13, 3) := by decide +kernel
theorem dd_Planner_sound_20 : decode bb_Planner_sound 20 = .ok (.new 66, 3) := by decide +kernel
theorem dd_Planner_sound_23 : decode bb_Planner_sound 23 = .ok (.dup, 1) := by decide +kernel
theorem dd_Planner_sound_24 : decode bb_Planner_sound 24 = .ok (.ldc 200, 2) := by decide +kernel
theorem dd_Planner_sound_26 : decode bb_Planner_sound 26 = .ok (.invokespecial 70, 3) := by decide +kernel
theorem dd_Planner_sound_29 : decode bb_Planner_sound 29 = .ok (.athrow, 1) := by decide +kernel
theorem dd_Planner_sound_30 : decode bb_Planner_sound 30 = .ok (.aload_n 0, 1) := by decide +kernel
theorem dd_Planner_sound_31 : decode bb_Planner_sound 31 = .ok (.getfield 47, 3) := by decide +kernel
theorem dd_Planner_sound_34 : decode bb_Planner_sound 34 = .ok (.aload_n 0, 1) := by decide +kernel
theorem dd_Planner_sound_35 : decode bb_Planner_sound 35 = .ok (.getfield 12, 3) := by decide +kernel
theorem dd_Planner_sound_38 : decode bb_Planner_sound 38 = .ok (.iload_n 1, 1) := by decide +kernel
theorem dd_Planner_sound_39 : decode bb_Planner_sound 39 = .ok (.iload_n 2, 1) := by decide +kernel
theorem dd_Planner_sound_40 : decode bb_Planner_sound 40 = .ok (.invokevirtual 202, 3) := by decide +kernel
theorem dd_Planner_sound_43 : decode bb_Planner_sound 43 = .ok (.aload_n 0, 1) := by decide +kernel
theorem dd_Planner_sound_44 : decode bb_Planner_sound 44 = .ok (.getfield 33, 3) := by decide +kernel
theorem dd_Planner_sound_47 : decode bb_Planner_sound 47 = .ok (.aload_n 0, 1) := by decide +kernel
theorem dd_Planner_sound_48 : decode bb_Planner_sound 48 = .ok (.getfield 12, 3) := by decide +kernel
theorem dd_Planner_sound_51 : decode bb_Planner_sound 51 = .ok (.aload_n 0, 1) := by decide +kernel
theorem dd_Planner_sound_52 : decode bb_Planner_sound 52 = .ok (.getfield 47, 3) := by decide +kernel
theorem dd_Planner_sound_55 : decode bb_Planner_sound 55 = .ok (.invokevirtual 206, 3) := by decide +kernel
theorem dd_Planner_sound_58 : decode bb_Planner_sound 58 = .ok (.ireturn, 1) := by decide +kernel
theorem dd_Planner_prove_0 : decode bb_Planner_prove 0 = .ok (.aload_n 0, 1) := by decide +kernel
theorem dd_Planner_prove_1 : decode bb_Planner_prove 1 = .ok (.getfield 55, 3) := by decide +kernel
theorem dd_Planner_prove_4 : decode bb_Planner_prove 4 = .ok (.ifCond .eq 10, 3) := by decide +kernel
theorem dd_Planner_prove_7 : decode bb_Planner_prove 7 = .ok (.aload_n 0, 1) := by decide +kernel
theorem dd_Planner_prove_8 : decode bb_Planner_prove 8 = .ok (.getfield 59, 3) := by decide +kernel
theorem dd_Planner_prove_11 : decode bb_Planner_prove 11 = .ok (.ifCond .eq 13, 3) := by decide +kernel
theorem dd_Planner_prove_14 : decode bb_Planner_prove 14 = .ok (.new 111, 3) := by decide +kernel
theorem dd_Planner_prove_17 : decode bb_Planner_prove 17 = .ok (.dup, 1) := by decide +kernel
theorem dd_Planner_prove_18 : decode bb_Planner_prove 18 = .ok (.ldc 210, 2) := by decide +kernel
theorem dd_Planner_prove_20 : decode bb_Planner_prove 20 = .ok (.invokespecial 115, 3) := by decide +kernel
theorem dd_Planner_prove_23 : decode bb_Planner_prove 23 = .ok (.athrow, 1) := by decide +kernel
theorem dd_Planner_prove_24 : decode bb_Planner_prove 24 = .ok (.aload_n 0, 1) := by decide +kernel
theorem dd_Planner_prove_25 : decode bb_Planner_prove 25 = .ok (.getfield 47, 3) := by decide +kernel
theorem dd_Planner_prove_28 : decode bb_Planner_prove 28 = .ok (.aload_n 0, 1) := by decide +kernel
theorem dd_Planner_prove_29 : decode bb_Planner_prove 29 = .ok (.getfield 12, 3) := by decide +kernel
theorem dd_Planner_prove_32 : decode bb_Planner_prove 32 = .ok (.aload_n 0, 1) := by decide +kernel
theorem dd_Planner_prove_33 : decode bb_Planner_prove 33 = .ok (.getfield 26, 3) := by decide +kernel
theorem dd_Planner_prove_36 : decode bb_Planner_prove 36 = .ok (.getfield 149, 3) := by decide +kernel
theorem dd_Planner_prove_39 : decode bb_Planner_prove 39 = .ok (.aload_n 0, 1) := by decide +kernel
theorem dd_Planner_prove_40 : decode bb_Planner_prove 40 = .ok (.getfield 26, 3) := by decide +kernel
theorem dd_Planner_prove_43 : decode bb_Planner_prove 43 = .ok (.getfield 152, 3) := by decide +kernel
theorem dd_Planner_prove_46 : decode bb_Planner_prove 46 = .ok (.invokevirtual 202, 3) := by decide +kernel
theorem dd_Planner_prove_49 : decode bb_Planner_prove 49 = .ok (.aload_n 0, 1) := by decide +kernel
theorem dd_Planner_prove_50 : decode bb_Planner_prove 50 = .ok (.getfield 40, 3) := by decide +kernel
theorem dd_Planner_prove_53 : decode bb_Planner_prove 53 = .ok (.aload_n 0, 1) := by decide +kernel
theorem dd_Planner_prove_54 : decode bb_Planner_prove 54 = .ok (.getfield 12, 3) := by decide +kernel
theorem dd_Planner_prove_57 : decode bb_Planner_prove 57 = .ok (.aload_n 0, 1) := by decide +kernel
theorem dd_Planner_prove_58 : decode bb_Planner_prove 58 = .ok (.getfield 19, 3) := by decide +kernel
theorem dd_Planner_prove_61 : decode bb_Planner_prove 61 = .ok (.aload_n 0, 1) := by decide +kernel
theorem dd_Planner_prove_62 : decode bb_Planner_prove 62 = .ok (.getfield 26, 3) := by decide +kernel
theorem dd_Planner_prove_65 : decode bb_Planner_prove 65 = .ok (.getfield 140, 3) := by decide +kernel
theorem dd_Planner_prove_68 : decode bb_Planner_prove 68 = .ok (.invokevirtual 212, 3) := by decide +kernel
theorem dd_Planner_prove_71 : decode bb_Planner_prove 71 = .ok (.aload_n 0, 1) := by decide +kernel
theorem dd_Planner_prove_72 : decode bb_Planner_prove 72 = .ok (.getfield 40, 3) := by decide +kernel
theorem dd_Planner_prove_75 : decode bb_Planner_prove 75 = .ok (.aload_n 0, 1) := by decide +kernel
theorem dd_Planner_prove_76 : decode bb_Planner_prove 76 = .ok (.getfield 12, 3) := by decide +kernel
theorem dd_Planner_prove_79 : decode bb_Planner_prove 79 = .ok (.aload_n 0, 1) := by decide +kernel
theorem dd_Planner_prove_80 : decode bb_Planner_prove 80 = .ok (.getfield 47, 3) := by decide +kernel
theorem dd_Planner_prove_83 : decode bb_Planner_prove 83 = .ok (.invokevirtual 215, 3) := by decide +kernel
theorem dd_Planner_prove_86 : decode bb_Planner_prove 86 = .ok (.ireturn, 1) := by decide +kernel
theorem dd_Planner_checkAmount_0 : decode bb_Planner_checkAmount 0 = .ok (.iload_n 1, 1) := by decide +kernel
theorem dd_Planner_checkAmount_1 : decode bb_Planner_checkAmount 1 = .ok (.ifCond .lt 14, 3) := by decide +kernel
theorem dd_Planner_checkAmount_4 : decode bb_Planner_checkAmount 4 = .ok (.iload_n 1, 1) := by decide +kernel
theorem dd_Planner_checkAmount_5 : decode bb_Planner_checkAmount 5 = .ok (.aload_n 0, 1) := by decide +kernel
theorem dd_Planner_checkAmount_6 : decode bb_Planner_checkAmount 6 = .ok (.getfield 12, 3) := by decide +kernel
theorem dd_Planner_checkAmount_9 : decode bb_Planner_checkAmount 9 = .ok (.getfield 216, 3) := by decide +kernel
theorem dd_Planner_checkAmount_12 : decode bb_Planner_checkAmount 12 = .ok (.if_icmp .lt 13, 3) := by decide +kernel
theorem dd_Planner_checkAmount_15 : decode bb_Planner_checkAmount 15 = .ok (.new 124, 3) := by decide +kernel
theorem dd_Planner_checkAmount_18 : decode bb_Planner_checkAmount 18 = .ok (.dup, 1) := by decide +kernel
theorem dd_Planner_checkAmount_19 : decode bb_Planner_checkAmount 19 = .ok (.ldc 219, 2) := by decide +kernel
theorem dd_Planner_checkAmount_21 : decode bb_Planner_checkAmount 21 = .ok (.invokespecial 128, 3) := by decide +kernel
theorem dd_Planner_checkAmount_24 : decode bb_Planner_checkAmount 24 = .ok (.athrow, 1) := by decide +kernel
theorem dd_Planner_checkAmount_25 : decode bb_Planner_checkAmount 25 = .ok (.return_, 1) := by decide +kernel
theorem dd_Planner_checkNode_0 : decode bb_Planner_checkNode 0 = .ok (.iload_n 0, 1) := by decide +kernel
theorem dd_Planner_checkNode_1 : decode bb_Planner_checkNode 1 = .ok (.ifCond .lt 9, 3) := by decide +kernel
theorem dd_Planner_checkNode_4 : decode bb_Planner_checkNode 4 = .ok (.iload_n 0, 1) := by decide +kernel
theorem dd_Planner_checkNode_5 : decode bb_Planner_checkNode 5 = .ok (.bipush 40, 2) := by decide +kernel
theorem dd_Planner_checkNode_7 : decode bb_Planner_checkNode 7 = .ok (.if_icmp .lt 13, 3) := by decide +kernel
theorem dd_Planner_checkNode_10 : decode bb_Planner_checkNode 10 = .ok (.new 124, 3) := by decide +kernel
theorem dd_Planner_checkNode_13 : decode bb_Planner_checkNode 13 = .ok (.dup, 1) := by decide +kernel
theorem dd_Planner_checkNode_14 : decode bb_Planner_checkNode 14 = .ok (.ldc 221, 2) := by decide +kernel
theorem dd_Planner_checkNode_16 : decode bb_Planner_checkNode 16 = .ok (.invokespecial 128, 3) := by decide +kernel
theorem dd_Planner_checkNode_19 : decode bb_Planner_checkNode 19 = .ok (.athrow, 1) := by decide +kernel
theorem dd_Planner_checkNode_20 : decode bb_Planner_checkNode 20 = .ok (.return_, 1) := by decide +kernel
theorem dd_Planner_checkWhich_0 : decode bb_Planner_checkWhich 0 = .ok (.iload_n 0, 1) := by decide +kernel
theorem dd_Planner_checkWhich_1 : decode bb_Planner_checkWhich 1 = .ok (.ifCond .lt 8, 3) := by decide +kernel
theorem dd_Planner_checkWhich_4 : decode bb_Planner_checkWhich 4 = .ok (.iload_n 0, 1) := by decide +kernel
theorem dd_Planner_checkWhich_5 : decode bb_Planner_checkWhich 5 = .ok (.iconst 1, 1) := by decide +kernel
theorem dd_Planner_checkWhich_6 : decode bb_Planner_checkWhich 6 = .ok (.if_icmp .le 13, 3) := by decide +kernel
theorem dd_Planner_checkWhich_9 : decode bb_Planner_checkWhich 9 = .ok (.new 66, 3) := by decide +kernel
theorem dd_Planner_checkWhich_12 : decode bb_Planner_checkWhich 12 = .ok (.dup, 1) := by decide +kernel
theorem dd_Planner_checkWhich_13 : decode bb_Planner_checkWhich 13 = .ok (.ldc 223, 2) := by decide +kernel
theorem dd_Planner_checkWhich_15 : decode bb_Planner_checkWhich 15 = .ok (.invokespecial 70, 3) := by decide +kernel
theorem dd_Planner_checkWhich_18 : decode bb_Planner_checkWhich 18 = .ok (.athrow, 1) := by decide +kernel
theorem dd_Planner_checkWhich_19 : decode bb_Planner_checkWhich 19 = .ok (.return_, 1) := by decide +kernel
theorem dd_Planner_checkPlan_0 : decode bb_Planner_checkPlan 0 = .ok (.aload_n 0, 1) := by decide +kernel
theorem dd_Planner_checkPlan_1 : decode bb_Planner_checkPlan 1 = .ok (.getfield 55, 3) := by decide +kernel
theorem dd_Planner_checkPlan_4 : decode bb_Planner_checkPlan 4 = .ok (.ifCond .eq 13, 3) := by decide +kernel
theorem dd_Planner_checkPlan_7 : decode bb_Planner_checkPlan 7 = .ok (.aload_n 0, 1) := by decide +kernel
theorem dd_Planner_checkPlan_8 : decode bb_Planner_checkPlan 8 = .ok (.getfield 26, 3) := by decide +kernel
theorem dd_Planner_checkPlan_11 : decode bb_Planner_checkPlan 11 = .ok (.getfield 140, 3) := by decide +kernel
theorem dd_Planner_checkPlan_14 : decode bb_Planner_checkPlan 14 = .ok (.ifCond .ne 13, 3) := by decide +kernel
theorem dd_Planner_checkPlan_17 : decode bb_Planner_checkPlan 17 = .ok (.new 111, 3) := by decide +kernel
theorem dd_Planner_checkPlan_20 : decode bb_Planner_checkPlan 20 = .ok (.dup, 1) := by decide +kernel
theorem dd_Planner_checkPlan_21 : decode bb_Planner_checkPlan 21 = .ok (.ldc 225, 2) := by decide +kernel
theorem dd_Planner_checkPlan_23 : decode bb_Planner_checkPlan 23 = .ok (.invokespecial 115, 3) := by decide +kernel
theorem dd_Planner_checkPlan_26 : decode bb_Planner_checkPlan 26 = .ok (.athrow, 1) := by decide +kernel
theorem dd_Planner_checkPlan_27 : decode bb_Planner_checkPlan 27 = .ok (.return_, 1) := by decide +kernel
theorem dd_Planner_isWithin_0 : decode bb_Planner_isWithin 0 = .ok (.iload_n 0, 1) := by decide +kernel
theorem dd_Planner_isWithin_1 : decode bb_Planner_isWithin 1 = .ok (.iload_n 1, 1) := by decide +kernel
theorem dd_Planner_isWithin_2 : decode bb_Planner_isWithin 2 = .ok (.ineg, 1) := by decide +kernel
theorem dd_Planner_isWithin_3 : decode bb_Planner_isWithin 3 = .ok (.if_icmp .lt 12, 3) := by decide +kernel
theorem dd_Planner_isWithin_6 : decode bb_Planner_isWithin 6 = .ok (.iload_n 0, 1) := by decide +kernel
theorem dd_Planner_isWithin_7 : decode bb_Planner_isWithin 7 = .ok (.iload_n 1, 1) := by decide +kernel
theorem dd_Planner_isWithin_8 : decode bb_Planner_isWithin 8 = .ok (.if_icmp .gt 7, 3) := by decide +kernel
theorem dd_Planner_isWithin_11 : decode bb_Planner_isWithin 11 = .ok (.iconst 1, 1) := by decide +kernel
theorem dd_Planner_isWithin_12 : decode bb_Planner_isWithin 12 = .ok (.goto 4, 3) := by decide +kernel
theorem dd_Planner_isWithin_15 : decode bb_Planner_isWithin 15 = .ok (.iconst 0, 1) := by decide +kernel
theorem dd_Planner_isWithin_16 : decode bb_Planner_isWithin 16 = .ok (.ireturn, 1) := by decide +kernel
theorem dd_Planner_isMultiplier_0 : decode bb_Planner_isMultiplier 0 = .ok (.iload_n 0, 1) := by decide +kernel
theorem dd_Planner_isMultiplier_1 : decode bb_Planner_isMultiplier 1 = .ok (.ifCond .lt 13, 3) := by decide +kernel
theorem dd_Planner_isMultiplier_4 : decode bb_Planner_isMultiplier 4 = .ok (.iload_n 0, 1) := by decide +kernel
theorem dd_Planner_isMultiplier_5 : decode bb_Planner_isMultiplier 5 = .ok (.ldc 199, 2) := by decide +kernel
theorem dd_Planner_isMultiplier_7 : decode bb_Planner_isMultiplier 7 = .ok (.if_icmp .gt 7, 3) := by decide +kernel
theorem dd_Planner_isMultiplier_10 : decode bb_Planner_isMultiplier 10 = .ok (.iconst 1, 1) := by decide +kernel
theorem dd_Planner_isMultiplier_11 : decode bb_Planner_isMultiplier 11 = .ok (.goto 4, 3) := by decide +kernel
theorem dd_Planner_isMultiplier_14 : decode bb_Planner_isMultiplier 14 = .ok (.iconst 0, 1) := by decide +kernel
theorem dd_Planner_isMultiplier_15 : decode bb_Planner_isMultiplier 15 = .ok (.ireturn, 1) := by decide +kernel
theorem dd_Planner_isWeight_0 : decode bb_Planner_isWeight 0 = .ok (.iload_n 1, 1) := by decide +kernel
theorem dd_Planner_isWeight_1 : decode bb_Planner_isWeight 1 = .ok (.aload_n 0, 1) := by decide +kernel
theorem dd_Planner_isWeight_2 : decode bb_Planner_isWeight 2 = .ok (.getfield 12, 3) := by decide +kernel
theorem dd_Planner_isWeight_5 : decode bb_Planner_isWeight 5 = .ok (.getfield 216, 3) := by decide +kernel
theorem dd_Planner_isWeight_8 : decode bb_Planner_isWeight 8 = .ok (.if_icmp .ge 12, 3) := by decide +kernel
theorem dd_Planner_isWeight_11 : decode bb_Planner_isWeight 11 = .ok (.iload_n 2, 1) := by decide +kernel
theorem dd_Planner_isWeight_12 : decode bb_Planner_isWeight 12 = .ok (.bipush 9, 2) := by decide +kernel
theorem dd_Planner_isWeight_14 : decode bb_Planner_isWeight 14 = .ok (.invokestatic 77, 3) := by decide +kernel
theorem dd_Planner_isWeight_17 : decode bb_Planner_isWeight 17 = .ok (.goto 12, 3) := by decide +kernel
theorem dd_Planner_isWeight_20 : decode bb_Planner_isWeight 20 = .ok (.iload_n 2, 1) := by decide +kernel
theorem dd_Planner_isWeight_21 : decode bb_Planner_isWeight 21 = .ok (.ifCond .ne 7, 3) := by decide +kernel
theorem dd_Planner_isWeight_24 : decode bb_Planner_isWeight 24 = .ok (.iconst 1, 1) := by decide +kernel
theorem dd_Planner_isWeight_25 : decode bb_Planner_isWeight 25 = .ok (.goto 4, 3) := by decide +kernel
theorem dd_Planner_isWeight_28 : decode bb_Planner_isWeight 28 = .ok (.iconst 0, 1) := by decide +kernel
theorem dd_Planner_isWeight_29 : decode bb_Planner_isWeight 29 = .ok (.ireturn, 1) := by decide +kernel
theorem dd_Planner_tell_0 : decode bb_Planner_tell 0 = .ok (.aload_n 0, 1) := by decide +kernel
theorem dd_Planner_tell_1 : decode bb_Planner_tell 1 = .ok (.getfield 51, 3) := by decide +kernel
theorem dd_Planner_tell_4 : decode bb_Planner_tell 4 = .ok (.iconst 0, 1) := by decide +kernel
theorem dd_Planner_tell_5 : decode bb_Planner_tell 5 = .ok (.iload_n 1, 1) := by decide +kernel
theorem dd_Planner_tell_6 : decode bb_Planner_tell 6 = .ok (.iastore, 1) := by decide +kernel
theorem dd_Planner_tell_7 : decode bb_Planner_tell 7 = .ok (.aload_n 0, 1) := by decide +kernel
theorem dd_Planner_tell_8 : decode bb_Planner_tell 8 = .ok (.getfield 51, 3) := by decide +kernel
theorem dd_Planner_tell_11 : decode bb_Planner_tell 11 = .ok (.iconst 1, 1) := by decide +kernel
theorem dd_Planner_tell_12 : decode bb_Planner_tell 12 = .ok (.iload_n 2, 1) := by decide +kernel
theorem dd_Planner_tell_13 : decode bb_Planner_tell 13 = .ok (.iastore, 1) := by decide +kernel
theorem dd_Planner_tell_14 : decode bb_Planner_tell 14 = .ok (.aload_n 0, 1) := by decide +kernel
theorem dd_Planner_tell_15 : decode bb_Planner_tell 15 = .ok (.getfield 51, 3) := by decide +kernel
theorem dd_Planner_tell_18 : decode bb_Planner_tell 18 = .ok (.iconst 2, 1) := by decide +kernel
theorem dd_Planner_tell_19 : decode bb_Planner_tell 19 = .ok (.iload_n 3, 1) := by decide +kernel
theorem dd_Planner_tell_20 : decode bb_Planner_tell 20 = .ok (.iastore, 1) := by decide +kernel
theorem dd_Planner_tell_21 : decode bb_Planner_tell 21 = .ok (.aload_n 0, 1) := by decide +kernel
theorem dd_Planner_tell_22 : decode bb_Planner_tell 22 = .ok (.getfield 51, 3) := by decide +kernel
theorem dd_Planner_tell_25 : decode bb_Planner_tell 25 = .ok (.iconst 3, 1) := by decide +kernel
theorem dd_Planner_tell_26 : decode bb_Planner_tell 26 = .ok (.iload 4, 2) := by decide +kernel
theorem dd_Planner_tell_28 : decode bb_Planner_tell 28 = .ok (.iastore, 1) := by decide +kernel
theorem dd_Planner_tell_29 : decode bb_Planner_tell 29 = .ok (.return_, 1) := by decide +kernel
theorem dd_Planner_part_0 : decode bb_Planner_part 0 = .ok (.iload_n 0, 1) := by decide +kernel
theorem dd_Planner_part_1 : decode bb_Planner_part 1 = .ok (.ifCond .ge 8, 3) := by decide +kernel
theorem dd_Planner_part_4 : decode bb_Planner_part 4 = .ok (.iload_n 0, 1) := by decide +kernel
theorem dd_Planner_part_5 : decode bb_Planner_part 5 = .ok (.ineg, 1) := by decide +kernel
theorem dd_Planner_part_6 : decode bb_Planner_part 6 = .ok (.goto 4, 3) := by decide +kernel
theorem dd_Planner_part_9 : decode bb_Planner_part 9 = .ok (.iload_n 0, 1) := by decide +kernel
theorem dd_Planner_part_10 : decode bb_Planner_part 10 = .ok (.iload_n 1, 1) := by decide +kernel
theorem dd_Planner_part_11 : decode bb_Planner_part 11 = .ok (.invokestatic 227, 3) := by decide +kernel
theorem dd_Planner_part_14 : decode bb_Planner_part 14 = .ok (.istore_n 3, 1) := by decide +kernel
theorem dd_Planner_part_15 : decode bb_Planner_part 15 = .ok (.iload_n 3, 1) := by decide +kernel
theorem dd_Planner_part_16 : decode bb_Planner_part 16 = .ok (.iconst 1, 1) := by decide +kernel
theorem dd_Planner_part_17 : decode bb_Planner_part 17 = .ok (.if_icmp .ge 5, 3) := by decide +kernel
theorem dd_Planner_part_20 : decode bb_Planner_part 20 = .ok (.iconst 0, 1) := by decide +kernel
theorem dd_Planner_part_21 : decode bb_Planner_part 21 = .ok (.ireturn, 1) := by decide +kernel
theorem dd_Planner_part_22 : decode bb_Planner_part 22 = .ok (.iload_n 2, 1) := by decide +kernel
theorem dd_Planner_part_23 : decode bb_Planner_part 23 = .ok (.ifCond .ne 7, 3) := by decide +kernel
theorem dd_Planner_part_26 : decode bb_Planner_part 26 = .ok (.iload_n 0, 1) := by decide +kernel
theorem dd_Planner_part_27 : decode bb_Planner_part 27 = .ok (.goto 4, 3) := by decide +kernel
theorem dd_Planner_part_30 : decode bb_Planner_part 30 = .ok (.iload_n 1, 1) := by decide +kernel
theorem dd_Planner_part_31 : decode bb_Planner_part 31 = .ok (.iload_n 3, 1) := by decide +kernel
theorem dd_Planner_part_32 : decode bb_Planner_part 32 = .ok (.idiv, 1) := by decide +kernel
theorem dd_Planner_part_33 : decode bb_Planner_part 33 = .ok (.ireturn, 1) := by decide +kernel
theorem dd_Planner_commonDivisor_0 : decode bb_Planner_commonDivisor 0 = .ok (.iload_n 0, 1) := by decide +kernel
theorem dd_Planner_commonDivisor_1 : decode bb_Planner_commonDivisor 1 = .ok (.istore_n 2, 1) := by decide +kernel
theorem dd_Planner_commonDivisor_2 : decode bb_Planner_commonDivisor 2 = .ok (.iload_n 1, 1) := by decide +kernel
theorem dd_Planner_commonDivisor_3 : decode bb_Planner_commonDivisor 3 = .ok (.istore_n 3, 1) := by decide +kernel
theorem dd_Planner_commonDivisor_4 : decode bb_Planner_commonDivisor 4 = .ok (.iconst 0, 1) := by decide +kernel
theorem dd_Planner_commonDivisor_5 : decode bb_Planner_commonDivisor 5 = .ok (.istore 4, 2) := by decide +kernel
theorem dd_Planner_commonDivisor_7 : decode bb_Planner_commonDivisor 7 = .ok (.iload 4, 2) := by decide +kernel
theorem dd_Planner_commonDivisor_9 : decode bb_Planner_commonDivisor 9 = .ok (.bipush 64, 2) := by decide +kernel
theorem dd_Planner_commonDivisor_11 : decode bb_Planner_commonDivisor 11 = .ok (.if_icmp .ge 23, 3) := by decide +kernel
theorem dd_Planner_commonDivisor_14 : decode bb_Planner_commonDivisor 14 = .ok (.iload_n 3, 1) := by decide +kernel
theorem dd_Planner_commonDivisor_15 : decode bb_Planner_commonDivisor 15 = .ok (.ifCond .eq 19, 3) := by decide +kernel
theorem dd_Planner_commonDivisor_18 : decode bb_Planner_commonDivisor 18 = .ok (.iload_n 2, 1) := by decide +kernel
theorem dd_Planner_commonDivisor_19 : decode bb_Planner_commonDivisor 19 = .ok (.iload_n 3, 1) := by decide +kernel
theorem dd_Planner_commonDivisor_20 : decode bb_Planner_commonDivisor 20 = .ok (.irem, 1) := by decide +kernel
theorem dd_Planner_commonDivisor_21 : decode bb_Planner_commonDivisor 21 = .ok (.istore 5, 2) := by decide +kernel
theorem dd_Planner_commonDivisor_23 : decode bb_Planner_commonDivisor 23 = .ok (.iload_n 3, 1) := by decide +kernel
theorem dd_Planner_commonDivisor_24 : decode bb_Planner_commonDivisor 24 = .ok (.istore_n 2, 1) := by decide +kernel
theorem dd_Planner_commonDivisor_25 : decode bb_Planner_commonDivisor 25 = .ok (.iload 5, 2) := by decide +kernel
theorem dd_Planner_commonDivisor_27 : decode bb_Planner_commonDivisor 27 = .ok (.istore_n 3, 1) := by decide +kernel
theorem dd_Planner_commonDivisor_28 : decode bb_Planner_commonDivisor 28 = .ok (.iinc 4 1, 3) := by decide +kernel
theorem dd_Planner_commonDivisor_31 : decode bb_Planner_commonDivisor 31 = .ok (.goto (-24), 3) := by decide +kernel
theorem dd_Planner_commonDivisor_34 : decode bb_Planner_commonDivisor 34 = .ok (.iload_n 2, 1) := by decide +kernel
theorem dd_Planner_commonDivisor_35 : decode bb_Planner_commonDivisor 35 = .ok (.ireturn, 1) := by decide +kernel
