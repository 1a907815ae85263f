theorem dd_Law_start_0 : decode bb_Law_start 0 = .ok (.aload_n 0, 1) := by decide +kernel
theorem dd_Law_start_1 : decode bb_Law_start 1 = .ok (.iload_n 1, 1) := by decide +kernel
theorem dd_Law_start_2 : decode bb_Law_start 2 = .ok (.invokevirtual 7, 3) := by decide +kernel
theorem dd_Law_start_5 : decode bb_Law_start 5 = .ok (.goto 6, 3) := by decide +kernel
theorem dd_Law_start_8 : decode bb_Law_start 8 = .ok (.astore_n 2, 1) := by decide +kernel
theorem dd_Law_start_9 : decode bb_Law_start 9 = .ok (.iconst 1, 1) := by decide +kernel
theorem dd_Law_start_10 : decode bb_Law_start 10 = .ok (.ireturn, 1) := by decide +kernel
theorem dd_Law_start_11 : decode bb_Law_start 11 = .ok (.iconst 0, 1) := by decide +kernel
theorem dd_Law_start_12 : decode bb_Law_start 12 = .ok (.ireturn, 1) := by decide +kernel
theorem dd_Law_amount_0 : decode bb_Law_amount 0 = .ok (.aload_n 0, 1) := by decide +kernel
theorem dd_Law_amount_1 : decode bb_Law_amount 1 = .ok (.iload_n 1, 1) := by decide +kernel
theorem dd_Law_amount_2 : decode bb_Law_amount 2 = .ok (.iload_n 2, 1) := by decide +kernel
theorem dd_Law_amount_3 : decode bb_Law_amount 3 = .ok (.iload_n 3, 1) := by decide +kernel
theorem dd_Law_amount_4 : decode bb_Law_amount 4 = .ok (.iload 4, 2) := by decide +kernel
theorem dd_Law_amount_6 : decode bb_Law_amount 6 = .ok (.invokevirtual 15, 3) := by decide +kernel
theorem dd_Law_amount_9 : decode bb_Law_amount 9 = .ok (.goto 11, 3) := by decide +kernel
theorem dd_Law_amount_12 : decode bb_Law_amount 12 = .ok (.astore 5, 2) := by decide +kernel
theorem dd_Law_amount_14 : decode bb_Law_amount 14 = .ok (.iconst 1, 1) := by decide +kernel
theorem dd_Law_amount_15 : decode bb_Law_amount 15 = .ok (.ireturn, 1) := by decide +kernel
theorem dd_Law_amount_16 : decode bb_Law_amount 16 = .ok (.astore 5, 2) := by decide +kernel
theorem dd_Law_amount_18 : decode bb_Law_amount 18 = .ok (.iconst 2, 1) := by decide +kernel
theorem dd_Law_amount_19 : decode bb_Law_amount 19 = .ok (.ireturn, 1) := by decide +kernel
theorem dd_Law_amount_20 : decode bb_Law_amount 20 = .ok (.iconst 0, 1) := by decide +kernel
theorem dd_Law_amount_21 : decode bb_Law_amount 21 = .ok (.ireturn, 1) := by decide +kernel
theorem dd_Law_cost_0 : decode bb_Law_cost 0 = .ok (.aload_n 0, 1) := by decide +kernel
theorem dd_Law_cost_1 : decode bb_Law_cost 1 = .ok (.iload_n 1, 1) := by decide +kernel
theorem dd_Law_cost_2 : decode bb_Law_cost 2 = .ok (.iload_n 2, 1) := by decide +kernel
theorem dd_Law_cost_3 : decode bb_Law_cost 3 = .ok (.invokevirtual 21, 3) := by decide +kernel
theorem dd_Law_cost_6 : decode bb_Law_cost 6 = .ok (.goto 9, 3) := by decide +kernel
theorem dd_Law_cost_9 : decode bb_Law_cost 9 = .ok (.astore_n 3, 1) := by decide +kernel
theorem dd_Law_cost_10 : decode bb_Law_cost 10 = .ok (.iconst 1, 1) := by decide +kernel
theorem dd_Law_cost_11 : decode bb_Law_cost 11 = .ok (.ireturn, 1) := by decide +kernel
theorem dd_Law_cost_12 : decode bb_Law_cost 12 = .ok (.astore_n 3, 1) := by decide +kernel
theorem dd_Law_cost_13 : decode bb_Law_cost 13 = .ok (.iconst 2, 1) := by decide +kernel
theorem dd_Law_cost_14 : decode bb_Law_cost 14 = .ok (.ireturn, 1) := by decide +kernel
theorem dd_Law_cost_15 : decode bb_Law_cost 15 = .ok (.iconst 0, 1) := by decide +kernel
theorem dd_Law_cost_16 : decode bb_Law_cost 16 = .ok (.ireturn, 1) := by decide +kernel
theorem dd_Law_limit_0 : decode bb_Law_limit 0 = .ok (.aload 6, 2) := by decide +kernel
theorem dd_Law_limit_2 : decode bb_Law_limit 2 = .ok (.iconst 0, 1) := by decide +kernel
theorem dd_Law_limit_3 : decode bb_Law_limit 3 = .ok (.aload_n 0, 1) := by decide +kernel
theorem dd_Law_limit_4 : decode bb_Law_limit 4 = .ok (.iload_n 1, 1) := by decide +kernel
theorem dd_Law_limit_5 : decode bb_Law_limit 5 = .ok (.iload_n 2, 1) := by decide +kernel
theorem dd_Law_limit_6 : decode bb_Law_limit 6 = .ok (.iload_n 3, 1) := by decide +kernel
theorem dd_Law_limit_7 : decode bb_Law_limit 7 = .ok (.iload 4, 2) := by decide +kernel
theorem dd_Law_limit_9 : decode bb_Law_limit 9 = .ok (.iload 5, 2) := by decide +kernel
theorem dd_Law_limit_11 : decode bb_Law_limit 11 = .ok (.invokevirtual 25, 3) := by decide +kernel
theorem dd_Law_limit_14 : decode bb_Law_limit 14 = .ok (.i2l, 1) := by decide +kernel
theorem dd_Law_limit_15 : decode bb_Law_limit 15 = .ok (.lastore, 1) := by decide +kernel
theorem dd_Law_limit_16 : decode bb_Law_limit 16 = .ok (.goto 11, 3) := by decide +kernel
theorem dd_Law_limit_19 : decode bb_Law_limit 19 = .ok (.astore 7, 2) := by decide +kernel
theorem dd_Law_limit_21 : decode bb_Law_limit 21 = .ok (.iconst 1, 1) := by decide +kernel
theorem dd_Law_limit_22 : decode bb_Law_limit 22 = .ok (.ireturn, 1) := by decide +kernel
theorem dd_Law_limit_23 : decode bb_Law_limit 23 = .ok (.astore 7, 2) := by decide +kernel
theorem dd_Law_limit_25 : decode bb_Law_limit 25 = .ok (.iconst 2, 1) := by decide +kernel
theorem dd_Law_limit_26 : decode bb_Law_limit 26 = .ok (.ireturn, 1) := by decide +kernel
theorem dd_Law_limit_27 : decode bb_Law_limit 27 = .ok (.iconst 0, 1) := by decide +kernel
theorem dd_Law_limit_28 : decode bb_Law_limit 28 = .ok (.ireturn, 1) := by decide +kernel
theorem dd_Law_drop_0 : decode bb_Law_drop 0 = .ok (.aload_n 2, 1) := by decide +kernel
theorem dd_Law_drop_1 : decode bb_Law_drop 1 = .ok (.iconst 0, 1) := by decide +kernel
theorem dd_Law_drop_2 : decode bb_Law_drop 2 = .ok (.aload_n 0, 1) := by decide +kernel
theorem dd_Law_drop_3 : decode bb_Law_drop 3 = .ok (.iload_n 1, 1) := by decide +kernel
theorem dd_Law_drop_4 : decode bb_Law_drop 4 = .ok (.invokevirtual 31, 3) := by decide +kernel
theorem dd_Law_drop_7 : decode bb_Law_drop 7 = .ok (.i2l, 1) := by decide +kernel
theorem dd_Law_drop_8 : decode bb_Law_drop 8 = .ok (.lastore, 1) := by decide +kernel
theorem dd_Law_drop_9 : decode bb_Law_drop 9 = .ok (.goto 6, 3) := by decide +kernel
theorem dd_Law_drop_12 : decode bb_Law_drop 12 = .ok (.astore_n 3, 1) := by decide +kernel
theorem dd_Law_drop_13 : decode bb_Law_drop 13 = .ok (.iconst 1, 1) := by decide +kernel
theorem dd_Law_drop_14 : decode bb_Law_drop 14 = .ok (.ireturn, 1) := by decide +kernel
theorem dd_Law_drop_15 : decode bb_Law_drop 15 = .ok (.iconst 0, 1) := by decide +kernel
theorem dd_Law_drop_16 : decode bb_Law_drop 16 = .ok (.ireturn, 1) := by decide +kernel
theorem dd_Law_total_0 : decode bb_Law_total 0 = .ok (.aload_n 2, 1) := by decide +kernel
theorem dd_Law_total_1 : decode bb_Law_total 1 = .ok (.iconst 0, 1) := by decide +kernel
theorem dd_Law_total_2 : decode bb_Law_total 2 = .ok (.aload_n 0, 1) := by decide +kernel
theorem dd_Law_total_3 : decode bb_Law_total 3 = .ok (.iload_n 1, 1) := by decide +kernel
theorem dd_Law_total_4 : decode bb_Law_total 4 = .ok (.invokevirtual 35, 3) := by decide +kernel
theorem dd_Law_total_7 : decode bb_Law_total 7 = .ok (.i2l, 1) := by decide +kernel
theorem dd_Law_total_8 : decode bb_Law_total 8 = .ok (.lastore, 1) := by decide +kernel
theorem dd_Law_total_9 : decode bb_Law_total 9 = .ok (.goto 9, 3) := by decide +kernel
theorem dd_Law_total_12 : decode bb_Law_total 12 = .ok (.astore_n 3, 1) := by decide +kernel
theorem dd_Law_total_13 : decode bb_Law_total 13 = .ok (.iconst 1, 1) := by decide +kernel
theorem dd_Law_total_14 : decode bb_Law_total 14 = .ok (.ireturn, 1) := by decide +kernel
theorem dd_Law_total_15 : decode bb_Law_total 15 = .ok (.astore_n 3, 1) := by decide +kernel
theorem dd_Law_total_16 : decode bb_Law_total 16 = .ok (.iconst 2, 1) := by decide +kernel
theorem dd_Law_total_17 : decode bb_Law_total 17 = .ok (.ireturn, 1) := by decide +kernel
theorem dd_Law_total_18 : decode bb_Law_total 18 = .ok (.iconst 0, 1) := by decide +kernel
theorem dd_Law_total_19 : decode bb_Law_total 19 = .ok (.ireturn, 1) := by decide +kernel
theorem dd_Law_plan_0 : decode bb_Law_plan 0 = .ok (.aload_n 3, 1) := by decide +kernel
theorem dd_Law_plan_1 : decode bb_Law_plan 1 = .ok (.iconst 0, 1) := by decide +kernel
theorem dd_Law_plan_2 : decode bb_Law_plan 2 = .ok (.aload_n 0, 1) := by decide +kernel
theorem dd_Law_plan_3 : decode bb_Law_plan 3 = .ok (.iload_n 1, 1) := by decide +kernel
theorem dd_Law_plan_4 : decode bb_Law_plan 4 = .ok (.iload_n 2, 1) := by decide +kernel
theorem dd_Law_plan_5 : decode bb_Law_plan 5 = .ok (.invokevirtual 38, 3) := by decide +kernel
theorem dd_Law_plan_8 : decode bb_Law_plan 8 = .ok (.i2l, 1) := by decide +kernel
theorem dd_Law_plan_9 : decode bb_Law_plan 9 = .ok (.lastore, 1) := by decide +kernel
theorem dd_Law_plan_10 : decode bb_Law_plan 10 = .ok (.goto 15, 3) := by decide +kernel
theorem dd_Law_plan_13 : decode bb_Law_plan 13 = .ok (.astore 4, 2) := by decide +kernel
theorem dd_Law_plan_15 : decode bb_Law_plan 15 = .ok (.iconst 1, 1) := by decide +kernel
theorem dd_Law_plan_16 : decode bb_Law_plan 16 = .ok (.ireturn, 1) := by decide +kernel
theorem dd_Law_plan_17 : decode bb_Law_plan 17 = .ok (.astore 4, 2) := by decide +kernel
theorem dd_Law_plan_19 : decode bb_Law_plan 19 = .ok (.iconst 2, 1) := by decide +kernel
theorem dd_Law_plan_20 : decode bb_Law_plan 20 = .ok (.ireturn, 1) := by decide +kernel
theorem dd_Law_plan_21 : decode bb_Law_plan 21 = .ok (.astore 4, 2) := by decide +kernel
theorem dd_Law_plan_23 : decode bb_Law_plan 23 = .ok (.iconst 3, 1) := by decide +kernel
theorem dd_Law_plan_24 : decode bb_Law_plan 24 = .ok (.ireturn, 1) := by decide +kernel
theorem dd_Law_plan_25 : decode bb_Law_plan 25 = .ok (.iconst 0, 1) := by decide +kernel
theorem dd_Law_plan_26 : decode bb_Law_plan 26 = .ok (.ireturn, 1) := by decide +kernel
theorem dd_Law_keeps_0 : decode bb_Law_keeps 0 = .ok (.aload 6, 2) := by decide +kernel
theorem dd_Law_keeps_2 : decode bb_Law_keeps 2 = .ok (.iconst 0, 1) := by decide +kernel
theorem dd_Law_keeps_3 : decode bb_Law_keeps 3 = .ok (.aload_n 0, 1) := by decide +kernel
theorem dd_Law_keeps_4 : decode bb_Law_keeps 4 = .ok (.iload_n 1, 1) := by decide +kernel
theorem dd_Law_keeps_5 : decode bb_Law_keeps 5 = .ok (.iload_n 2, 1) := by decide +kernel
theorem dd_Law_keeps_6 : decode bb_Law_keeps 6 = .ok (.iload_n 3, 1) := by decide +kernel
theorem dd_Law_keeps_7 : decode bb_Law_keeps 7 = .ok (.iload 4, 2) := by decide +kernel
theorem dd_Law_keeps_9 : decode bb_Law_keeps 9 = .ok (.iload 5, 2) := by decide +kernel
theorem dd_Law_keeps_11 : decode bb_Law_keeps 11 = .ok (.invokevirtual 42, 3) := by decide +kernel
theorem dd_Law_keeps_14 : decode bb_Law_keeps 14 = .ok (.ifCond .eq 7, 3) := by decide +kernel
theorem dd_Law_keeps_17 : decode bb_Law_keeps 17 = .ok (.lconst 1, 1) := by decide +kernel
theorem dd_Law_keeps_18 : decode bb_Law_keeps 18 = .ok (.goto 4, 3) := by decide +kernel
theorem dd_Law_keeps_21 : decode bb_Law_keeps 21 = .ok (.lconst 0, 1) := by decide +kernel
theorem dd_Law_keeps_22 : decode bb_Law_keeps 22 = .ok (.lastore, 1) := by decide +kernel
theorem dd_Law_keeps_23 : decode bb_Law_keeps 23 = .ok (.goto 7, 3) := by decide +kernel
theorem dd_Law_keeps_26 : decode bb_Law_keeps 26 = .ok (.astore 7, 2) := by decide +kernel
theorem dd_Law_keeps_28 : decode bb_Law_keeps 28 = .ok (.iconst 1, 1) := by decide +kernel
theorem dd_Law_keeps_29 : decode bb_Law_keeps 29 = .ok (.ireturn, 1) := by decide +kernel
theorem dd_Law_keeps_30 : decode bb_Law_keeps 30 = .ok (.iconst 0, 1) := by decide +kernel
theorem dd_Law_keeps_31 : decode bb_Law_keeps 31 = .ok (.ireturn, 1) := by decide +kernel
theorem dd_Law_fork_0 : decode bb_Law_fork 0 = .ok (.aload_n 0, 1) := by decide +kernel
theorem dd_Law_fork_1 : decode bb_Law_fork 1 = .ok (.iload_n 1, 1) := by decide +kernel
theorem dd_Law_fork_2 : decode bb_Law_fork 2 = .ok (.iload_n 2, 1) := by decide +kernel
theorem dd_Law_fork_3 : decode bb_Law_fork 3 = .ok (.iload_n 3, 1) := by decide +kernel
theorem dd_Law_fork_4 : decode bb_Law_fork 4 = .ok (.iload 4, 2) := by decide +kernel
theorem dd_Law_fork_6 : decode bb_Law_fork 6 = .ok (.iload 5, 2) := by decide +kernel
theorem dd_Law_fork_8 : decode bb_Law_fork 8 = .ok (.invokevirtual 46, 3) := by decide +kernel
theorem dd_Law_fork_11 : decode bb_Law_fork 11 = .ok (.goto 11, 3) := by decide +kernel
theorem dd_Law_fork_14 : decode bb_Law_fork 14 = .ok (.astore 6, 2) := by decide +kernel
theorem dd_Law_fork_16 : decode bb_Law_fork 16 = .ok (.iconst 1, 1) := by decide +kernel
theorem dd_Law_fork_17 : decode bb_Law_fork 17 = .ok (.ireturn, 1) := by decide +kernel
theorem dd_Law_fork_18 : decode bb_Law_fork 18 = .ok (.astore 6, 2) := by decide +kernel
theorem dd_Law_fork_20 : decode bb_Law_fork 20 = .ok (.iconst 2, 1) := by decide +kernel
theorem dd_Law_fork_21 : decode bb_Law_fork 21 = .ok (.ireturn, 1) := by decide +kernel
theorem dd_Law_fork_22 : decode bb_Law_fork 22 = .ok (.iconst 0, 1) := by decide +kernel
theorem dd_Law_fork_23 : decode bb_Law_fork 23 = .ok (.ireturn, 1) := by decide +kernel
theorem dd_Law_end_0 : decode bb_Law_end 0 = .ok (.aload_n 0, 1) := by decide +kernel
theorem dd_Law_end_1 : decode bb_Law_end 1 = .ok (.iload_n 1, 1) := by decide +kernel
theorem dd_Law_end_2 : decode bb_Law_end 2 = .ok (.iload_n 2, 1) := by decide +kernel
theorem dd_Law_end_3 : decode bb_Law_end 3 = .ok (.iload_n 3, 1) := by decide +kernel
theorem dd_Law_end_4 : decode bb_Law_end 4 = .ok (.iload 4, 2) := by decide +kernel
theorem dd_Law_end_6 : decode bb_Law_end 6 = .ok (.iload 5, 2) := by decide +kernel
theorem dd_Law_end_8 : decode bb_Law_end 8 = .ok (.iload 6, 2) := by decide +kernel
theorem dd_Law_end_10 : decode bb_Law_end 10 = .ok (.iload 7, 2) := by decide +kernel
theorem dd_Law_end_12 : decode bb_Law_end 12 = .ok (.iload 8, 2) := by decide +kernel
theorem dd_Law_end_14 : decode bb_Law_end 14 = .ok (.invokevirtual 50, 3) := by decide +kernel
theorem dd_Law_end_17 : decode bb_Law_end 17 = .ok (.goto 11, 3) := by decide +kernel
theorem dd_Law_end_20 : decode bb_Law_end 20 = .ok (.astore 9, 2) := by decide +kernel
theorem dd_Law_end_22 : decode bb_Law_end 22 = .ok (.iconst 1, 1) := by decide +kernel
theorem dd_Law_end_23 : decode bb_Law_end 23 = .ok (.ireturn, 1) := by decide +kernel
theorem dd_Law_end_24 : decode bb_Law_end 24 = .ok (.astore 9, 2) := by decide +kernel
theorem dd_Law_end_26 : decode bb_Law_end 26 = .ok (.iconst 2, 1) := by decide +kernel
theorem dd_Law_end_27 : decode bb_Law_end 27 = .ok (.ireturn, 1) := by decide +kernel
theorem dd_Law_end_28 : decode bb_Law_end 28 = .ok (.iconst 0, 1) := by decide +kernel
theorem dd_Law_end_29 : decode bb_Law_end 29 = .ok (.ireturn, 1) := by decide +kernel
theorem dd_Law_clear_0 : decode bb_Law_clear 0 = .ok (.aload_n 0, 1) := by decide +kernel
theorem dd_Law_clear_1 : decode bb_Law_clear 1 = .ok (.iload_n 1, 1) := by decide +kernel
theorem dd_Law_clear_2 : decode bb_Law_clear 2 = .ok (.invokevirtual 54, 3) := by decide +kernel
theorem dd_Law_clear_5 : decode bb_Law_clear 5 = .ok (.goto 6, 3) := by decide +kernel
theorem dd_Law_clear_8 : decode bb_Law_clear 8 = .ok (.astore_n 2, 1) := by decide +kernel
theorem dd_Law_clear_9 : decode bb_Law_clear 9 = .ok (.iconst 1, 1) := by decide +kernel
theorem dd_Law_clear_10 : decode bb_Law_clear 10 = .ok (.ireturn, 1) := by decide +kernel
theorem dd_Law_clear_11 : decode bb_Law_clear 11 = .ok (.iconst 0, 1) := by decide +kernel
theorem dd_Law_clear_12 : decode bb_Law_clear 12 = .ok (.ireturn, 1) := by decide +kernel
theorem dd_Law_sound_0 : decode bb_Law_sound 0 = .ok (.aload_n 3, 1) := by decide +kernel
theorem dd_Law_sound_1 : decode bb_Law_sound 1 = .ok (.iconst 0, 1) := by decide +kernel
theorem dd_Law_sound_2 : decode bb_Law_sound 2 = .ok (.aload_n 0, 1) := by decide +kernel
theorem dd_Law_sound_3 : decode bb_Law_sound 3 = .ok (.iload_n 1, 1) := by decide +kernel
theorem dd_Law_sound_4 : decode bb_Law_sound 4 = .ok (.iload_n 2, 1) := by decide +kernel
theorem dd_Law_sound_5 : decode bb_Law_sound 5 = .ok (.invokevirtual 57, 3) := by decide +kernel
theorem dd_Law_sound_8 : decode bb_Law_sound 8 = .ok (.ifCond .eq 7, 3) := by decide +kernel
theorem dd_Law_sound_11 : decode bb_Law_sound 11 = .ok (.lconst 1, 1) := by decide +kernel
theorem dd_Law_sound_12 : decode bb_Law_sound 12 = .ok (.goto 4, 3) := by decide +kernel
theorem dd_Law_sound_15 : decode bb_Law_sound 15 = .ok (.lconst 0, 1) := by decide +kernel
theorem dd_Law_sound_16 : decode bb_Law_sound 16 = .ok (.lastore, 1) := by decide +kernel
theorem dd_Law_sound_17 : decode bb_Law_sound 17 = .ok (.goto 7, 3) := by decide +kernel
theorem dd_Law_sound_20 : decode bb_Law_sound 20 = .ok (.astore 4, 2) := by decide +kernel
theorem dd_Law_sound_22 : decode bb_Law_sound 22 = .ok (.iconst 1, 1) := by decide +kernel
theorem dd_Law_sound_23 : decode bb_Law_sound 23 = .ok (.ireturn, 1) := by decide +kernel
theorem dd_Law_sound_24 : decode bb_Law_sound 24 = .ok (.iconst 0, 1) := by decide +kernel
theorem dd_Law_sound_25 : decode bb_Law_sound 25 = .ok (.ireturn, 1) := by decide +kernel
theorem dd_Law_prove_0 : decode bb_Law_prove 0 = .ok (.aload_n 1, 1) := by decide +kernel
theorem dd_Law_prove_1 : decode bb_Law_prove 1 = .ok (.iconst 0, 1) := by decide +kernel
theorem dd_Law_prove_2 : decode bb_Law_prove 2 = .ok (.aload_n 0, 1) := by decide +kernel
theorem dd_Law_prove_3 : decode bb_Law_prove 3 = .ok (.invokevirtual 61, 3) := by decide +kernel
theorem dd_Law_prove_6 : decode bb_Law_prove 6 = .ok (.ifCond .eq 7, 3) := by decide +kernel
theorem dd_Law_prove_9 : decode bb_Law_prove 9 = .ok (.lconst 1, 1) := by decide +kernel
theorem dd_Law_prove_10 : decode bb_Law_prove 10 = .ok (.goto 4, 3) := by decide +kernel
theorem dd_Law_prove_13 : decode bb_Law_prove 13 = .ok (.lconst 0, 1) := by decide +kernel
theorem dd_Law_prove_14 : decode bb_Law_prove 14 = .ok (.lastore, 1) := by decide +kernel
theorem dd_Law_prove_15 : decode bb_Law_prove 15 = .ok (.goto 6, 3) := by decide +kernel
theorem dd_Law_prove_18 : decode bb_Law_prove 18 = .ok (.astore_n 2, 1) := by decide +kernel
theorem dd_Law_prove_19 : decode bb_Law_prove 19 = .ok (.iconst 1, 1) := by decide +kernel
theorem dd_Law_prove_20 : decode bb_Law_prove 20 = .ok (.ireturn, 1) := by decide +kernel
theorem dd_Law_prove_21 : decode bb_Law_prove 21 = .ok (.iconst 0, 1) := by decide +kernel
theorem dd_Law_prove_22 : decode bb_Law_prove 22 = .ok (.ireturn, 1) := by decide +kernel
