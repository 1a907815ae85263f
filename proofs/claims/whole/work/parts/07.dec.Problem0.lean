theorem dd_Problem_init_0 : decode bb_Problem_init 0 = .ok (.aload_n 0, 1) := by decide +kernel
theorem dd_Problem_init_1 : decode bb_Problem_init 1 = .ok (.invokespecial 3, 3) := by decide +kernel
theorem dd_Problem_init_4 : decode bb_Problem_init 4 = .ok (.aload_n 0, 1) := by decide +kernel
theorem dd_Problem_init_5 : decode bb_Problem_init 5 = .ok (.iconst 0, 1) := by decide +kernel
theorem dd_Problem_init_6 : decode bb_Problem_init 6 = .ok (.putfield 9, 3) := by decide +kernel
theorem dd_Problem_init_9 : decode bb_Problem_init 9 = .ok (.aload_n 0, 1) := by decide +kernel
theorem dd_Problem_init_10 : decode bb_Problem_init 10 = .ok (.iconst 0, 1) := by decide +kernel
theorem dd_Problem_init_11 : decode bb_Problem_init 11 = .ok (.putfield 15, 3) := by decide +kernel
theorem dd_Problem_init_14 : decode bb_Problem_init 14 = .ok (.aload_n 0, 1) := by decide +kernel
theorem dd_Problem_init_15 : decode bb_Problem_init 15 = .ok (.iconst 4, 1) := by decide +kernel
theorem dd_Problem_init_16 : decode bb_Problem_init 16 = .ok (.newarray .int, 2) := by decide +kernel
theorem dd_Problem_init_18 : decode bb_Problem_init 18 = .ok (.putfield 18, 3) := by decide +kernel
theorem dd_Problem_init_21 : decode bb_Problem_init 21 = .ok (.aload_n 0, 1) := by decide +kernel
theorem dd_Problem_init_22 : decode bb_Problem_init 22 = .ok (.iconst 4, 1) := by decide +kernel
theorem dd_Problem_init_23 : decode bb_Problem_init 23 = .ok (.newarray .int, 2) := by decide +kernel
theorem dd_Problem_init_25 : decode bb_Problem_init 25 = .ok (.putfield 22, 3) := by decide +kernel
theorem dd_Problem_init_28 : decode bb_Problem_init 28 = .ok (.aload_n 0, 1) := by decide +kernel
theorem dd_Problem_init_29 : decode bb_Problem_init 29 = .ok (.iconst 4, 1) := by decide +kernel
theorem dd_Problem_init_30 : decode bb_Problem_init 30 = .ok (.newarray .boolean, 2) := by decide +kernel
theorem dd_Problem_init_32 : decode bb_Problem_init 32 = .ok (.putfield 25, 3) := by decide +kernel
theorem dd_Problem_init_35 : decode bb_Problem_init 35 = .ok (.aload_n 0, 1) := by decide +kernel
theorem dd_Problem_init_36 : decode bb_Problem_init 36 = .ok (.iconst 4, 1) := by decide +kernel
theorem dd_Problem_init_37 : decode bb_Problem_init 37 = .ok (.newarray .int, 2) := by decide +kernel
theorem dd_Problem_init_39 : decode bb_Problem_init 39 = .ok (.putfield 29, 3) := by decide +kernel
theorem dd_Problem_init_42 : decode bb_Problem_init 42 = .ok (.aload_n 0, 1) := by decide +kernel
theorem dd_Problem_init_43 : decode bb_Problem_init 43 = .ok (.bipush 6, 2) := by decide +kernel
theorem dd_Problem_init_45 : decode bb_Problem_init 45 = .ok (.iconst 4, 1) := by decide +kernel
theorem dd_Problem_init_46 : decode bb_Problem_init 46 = .ok (.multianewarray 32 2, 4) := by decide +kernel
theorem dd_Problem_init_50 : decode bb_Problem_init 50 = .ok (.putfield 34, 3) := by decide +kernel
theorem dd_Problem_init_53 : decode bb_Problem_init 53 = .ok (.aload_n 0, 1) := by decide +kernel
theorem dd_Problem_init_54 : decode bb_Problem_init 54 = .ok (.bipush 6, 2) := by decide +kernel
theorem dd_Problem_init_56 : decode bb_Problem_init 56 = .ok (.newarray .int, 2) := by decide +kernel
theorem dd_Problem_init_58 : decode bb_Problem_init 58 = .ok (.putfield 37, 3) := by decide +kernel
theorem dd_Problem_init_61 : decode bb_Problem_init 61 = .ok (.return_, 1) := by decide +kernel
theorem dd_Problem_begin_0 : decode bb_Problem_begin 0 = .ok (.aload_n 0, 1) := by decide +kernel
theorem dd_Problem_begin_1 : decode bb_Problem_begin 1 = .ok (.iload_n 1, 1) := by decide +kernel
theorem dd_Problem_begin_2 : decode bb_Problem_begin 2 = .ok (.putfield 9, 3) := by decide +kernel
theorem dd_Problem_begin_5 : decode bb_Problem_begin 5 = .ok (.aload_n 0, 1) := by decide +kernel
theorem dd_Problem_begin_6 : decode bb_Problem_begin 6 = .ok (.iconst 0, 1) := by decide +kernel
theorem dd_Problem_begin_7 : decode bb_Problem_begin 7 = .ok (.putfield 15, 3) := by decide +kernel
theorem dd_Problem_begin_10 : decode bb_Problem_begin 10 = .ok (.iconst 0, 1) := by decide +kernel
theorem dd_Problem_begin_11 : decode bb_Problem_begin 11 = .ok (.istore_n 3, 1) := by decide +kernel
theorem dd_Problem_begin_12 : decode bb_Problem_begin 12 = .ok (.iload_n 3, 1) := by decide +kernel
theorem dd_Problem_begin_13 : decode bb_Problem_begin 13 = .ok (.iconst 4, 1) := by decide +kernel
theorem dd_Problem_begin_14 : decode bb_Problem_begin 14 = .ok (.if_icmp .ge 37, 3) := by decide +kernel
theorem dd_Problem_begin_17 : decode bb_Problem_begin 17 = .ok (.aload_n 0, 1) := by decide +kernel
theorem dd_Problem_begin_18 : decode bb_Problem_begin 18 = .ok (.getfield 18, 3) := by decide +kernel
theorem dd_Problem_begin_21 : decode bb_Problem_begin 21 = .ok (.iload_n 3, 1) := by decide +kernel
theorem dd_Problem_begin_22 : decode bb_Problem_begin 22 = .ok (.iconst 0, 1) := by decide +kernel
theorem dd_Problem_begin_23 : decode bb_Problem_begin 23 = .ok (.iastore, 1) := by decide +kernel
theorem dd_Problem_begin_24 : decode bb_Problem_begin 24 = .ok (.aload_n 0, 1) := by decide +kernel
theorem dd_Problem_begin_25 : decode bb_Problem_begin 25 = .ok (.getfield 22, 3) := by decide +kernel
theorem dd_Problem_begin_28 : decode bb_Problem_begin 28 = .ok (.iload_n 3, 1) := by decide +kernel
theorem dd_Problem_begin_29 : decode bb_Problem_begin 29 = .ok (.iload_n 2, 1) := by decide +kernel
theorem dd_Problem_begin_30 : decode bb_Problem_begin 30 = .ok (.iastore, 1) := by decide +kernel
theorem dd_Problem_begin_31 : decode bb_Problem_begin 31 = .ok (.aload_n 0, 1) := by decide +kernel
theorem dd_Problem_begin_32 : decode bb_Problem_begin 32 = .ok (.getfield 25, 3) := by decide +kernel
theorem dd_Problem_begin_35 : decode bb_Problem_begin 35 = .ok (.iload_n 3, 1) := by decide +kernel
theorem dd_Problem_begin_36 : decode bb_Problem_begin 36 = .ok (.iconst 1, 1) := by decide +kernel
theorem dd_Problem_begin_37 : decode bb_Problem_begin 37 = .ok (.bastore, 1) := by decide +kernel
theorem dd_Problem_begin_38 : decode bb_Problem_begin 38 = .ok (.aload_n 0, 1) := by decide +kernel
theorem dd_Problem_begin_39 : decode bb_Problem_begin 39 = .ok (.getfield 29, 3) := by decide +kernel
theorem dd_Problem_begin_42 : decode bb_Problem_begin 42 = .ok (.iload_n 3, 1) := by decide +kernel
theorem dd_Problem_begin_43 : decode bb_Problem_begin 43 = .ok (.iconst 0, 1) := by decide +kernel
theorem dd_Problem_begin_44 : decode bb_Problem_begin 44 = .ok (.iastore, 1) := by decide +kernel
theorem dd_Problem_begin_45 : decode bb_Problem_begin 45 = .ok (.iinc 3 1, 3) := by decide +kernel
theorem dd_Problem_begin_48 : decode bb_Problem_begin 48 = .ok (.goto (-36), 3) := by decide +kernel
theorem dd_Problem_begin_51 : decode bb_Problem_begin 51 = .ok (.return_, 1) := by decide +kernel
theorem dd_Problem_addLimit_0 : decode bb_Problem_addLimit 0 = .ok (.aload_n 0, 1) := by decide +kernel
theorem dd_Problem_addLimit_1 : decode bb_Problem_addLimit 1 = .ok (.aload_n 0, 1) := by decide +kernel
theorem dd_Problem_addLimit_2 : decode bb_Problem_addLimit 2 = .ok (.getfield 15, 3) := by decide +kernel
theorem dd_Problem_addLimit_5 : decode bb_Problem_addLimit 5 = .ok (.aload_n 1, 1) := by decide +kernel
theorem dd_Problem_addLimit_6 : decode bb_Problem_addLimit 6 = .ok (.iload_n 2, 1) := by decide +kernel
theorem dd_Problem_addLimit_7 : decode bb_Problem_addLimit 7 = .ok (.invokevirtual 40, 3) := by decide +kernel
theorem dd_Problem_addLimit_10 : decode bb_Problem_addLimit 10 = .ok (.aload_n 0, 1) := by decide +kernel
theorem dd_Problem_addLimit_11 : decode bb_Problem_addLimit 11 = .ok (.dup, 1) := by decide +kernel
theorem dd_Problem_addLimit_12 : decode bb_Problem_addLimit 12 = .ok (.getfield 15, 3) := by decide +kernel
theorem dd_Problem_addLimit_15 : decode bb_Problem_addLimit 15 = .ok (.iconst 1, 1) := by decide +kernel
theorem dd_Problem_addLimit_16 : decode bb_Problem_addLimit 16 = .ok (.iadd, 1) := by decide +kernel
theorem dd_Problem_addLimit_17 : decode bb_Problem_addLimit 17 = .ok (.putfield 15, 3) := by decide +kernel
theorem dd_Problem_addLimit_20 : decode bb_Problem_addLimit 20 = .ok (.return_, 1) := by decide +kernel
theorem dd_Problem_removeLimit_0 : decode bb_Problem_removeLimit 0 = .ok (.iload_n 1, 1) := by decide +kernel
theorem dd_Problem_removeLimit_1 : decode bb_Problem_removeLimit 1 = .ok (.istore_n 2, 1) := by decide +kernel
theorem dd_Problem_removeLimit_2 : decode bb_Problem_removeLimit 2 = .ok (.iload_n 2, 1) := by decide +kernel
theorem dd_Problem_removeLimit_3 : decode bb_Problem_removeLimit 3 = .ok (.iconst 1, 1) := by decide +kernel
theorem dd_Problem_removeLimit_4 : decode bb_Problem_removeLimit 4 = .ok (.iadd, 1) := by decide +kernel
theorem dd_Problem_removeLimit_5 : decode bb_Problem_removeLimit 5 = .ok (.aload_n 0, 1) := by decide +kernel
theorem dd_Problem_removeLimit_6 : decode bb_Problem_removeLimit 6 = .ok (.getfield 15, 3) := by decide +kernel
theorem dd_Problem_removeLimit_9 : decode bb_Problem_removeLimit 9 = .ok (.if_icmp .ge 30, 3) := by decide +kernel
theorem dd_Problem_removeLimit_12 : decode bb_Problem_removeLimit 12 = .ok (.aload_n 0, 1) := by decide +kernel
theorem dd_Problem_removeLimit_13 : decode bb_Problem_removeLimit 13 = .ok (.iload_n 2, 1) := by decide +kernel
theorem dd_Problem_removeLimit_14 : decode bb_Problem_removeLimit 14 = .ok (.aload_n 0, 1) := by decide +kernel
theorem dd_Problem_removeLimit_15 : decode bb_Problem_removeLimit 15 = .ok (.getfield 34, 3) := by decide +kernel
theorem dd_Problem_removeLimit_18 : decode bb_Problem_removeLimit 18 = .ok (.iload_n 2, 1) := by decide +kernel
theorem dd_Problem_removeLimit_19 : decode bb_Problem_removeLimit 19 = .ok (.iconst 1, 1) := by decide +kernel
theorem dd_Problem_removeLimit_20 : decode bb_Problem_removeLimit 20 = .ok (.iadd, 1) := by decide +kernel
theorem dd_Problem_removeLimit_21 : decode bb_Problem_removeLimit 21 = .ok (.aaload, 1) := by decide +kernel
theorem dd_Problem_removeLimit_22 : decode bb_Problem_removeLimit 22 = .ok (.aload_n 0, 1) := by decide +kernel
theorem dd_Problem_removeLimit_23 : decode bb_Problem_removeLimit 23 = .ok (.getfield 37, 3) := by decide +kernel
theorem dd_Problem_removeLimit_26 : decode bb_Problem_removeLimit 26 = .ok (.iload_n 2, 1) := by decide +kernel
theorem dd_Problem_removeLimit_27 : decode bb_Problem_removeLimit 27 = .ok (.iconst 1, 1) := by decide +kernel
theorem dd_Problem_removeLimit_28 : decode bb_Problem_removeLimit 28 = .ok (.iadd, 1) := by decide +kernel
theorem dd_Problem_removeLimit_29 : decode bb_Problem_removeLimit 29 = .ok (.iaload, 1) := by decide +kernel
theorem dd_Problem_removeLimit_30 : decode bb_Problem_removeLimit 30 = .ok (.invokevirtual 40, 3) := by decide +kernel
theorem dd_Problem_removeLimit_33 : decode bb_Problem_removeLimit 33 = .ok (.iinc 2 1, 3) := by decide +kernel
theorem dd_Problem_removeLimit_36 : decode bb_Problem_removeLimit 36 = .ok (.goto (-34), 3) := by decide +kernel
theorem dd_Problem_removeLimit_39 : decode bb_Problem_removeLimit 39 = .ok (.aload_n 0, 1) := by decide +kernel
theorem dd_Problem_removeLimit_40 : decode bb_Problem_removeLimit 40 = .ok (.dup, 1) := by decide +kernel
theorem dd_Problem_removeLimit_41 : decode bb_Problem_removeLimit 41 = .ok (.getfield 15, 3) := by decide +kernel
theorem dd_Problem_removeLimit_44 : decode bb_Problem_removeLimit 44 = .ok (.iconst 1, 1) := by decide +kernel
theorem dd_Problem_removeLimit_45 : decode bb_Problem_removeLimit 45 = .ok (.isub, 1) := by decide +kernel
theorem dd_Problem_removeLimit_46 : decode bb_Problem_removeLimit 46 = .ok (.putfield 15, 3) := by decide +kernel
theorem dd_Problem_removeLimit_49 : decode bb_Problem_removeLimit 49 = .ok (.return_, 1) := by decide +kernel
theorem dd_Problem_setLimit_0 : decode bb_Problem_setLimit 0 = .ok (.iconst 0, 1) := by decide +kernel
theorem dd_Problem_setLimit_1 : decode bb_Problem_setLimit 1 = .ok (.istore 4, 2) := by decide +kernel
theorem dd_Problem_setLimit_3 : decode bb_Problem_setLimit 3 = .ok (.iload 4, 2) := by decide +kernel
theorem dd_Problem_setLimit_5 : decode bb_Problem_setLimit 5 = .ok (.iconst 4, 1) := by decide +kernel
theorem dd_Problem_setLimit_6 : decode bb_Problem_setLimit 6 = .ok (.if_icmp .ge 22, 3) := by decide +kernel
theorem dd_Problem_setLimit_9 : decode bb_Problem_setLimit 9 = .ok (.aload_n 0, 1) := by decide +kernel
theorem dd_Problem_setLimit_10 : decode bb_Problem_setLimit 10 = .ok (.getfield 34, 3) := by decide +kernel
theorem dd_Problem_setLimit_13 : decode bb_Problem_setLimit 13 = .ok (.iload_n 1, 1) := by decide +kernel
theorem dd_Problem_setLimit_14 : decode bb_Problem_setLimit 14 = .ok (.aaload, 1) := by decide +kernel
theorem dd_Problem_setLimit_15 : decode bb_Problem_setLimit 15 = .ok (.iload 4, 2) := by decide +kernel
theorem dd_Problem_setLimit_17 : decode bb_Problem_setLimit 17 = .ok (.aload_n 2, 1) := by decide +kernel
theorem dd_Problem_setLimit_18 : decode bb_Problem_setLimit 18 = .ok (.iload 4, 2) := by decide +kernel
theorem dd_Problem_setLimit_20 : decode bb_Problem_setLimit 20 = .ok (.iaload, 1) := by decide +kernel
theorem dd_Problem_setLimit_21 : decode bb_Problem_setLimit 21 = .ok (.iastore, 1) := by decide +kernel
theorem dd_Problem_setLimit_22 : decode bb_Problem_setLimit 22 = .ok (.iinc 4 1, 3) := by decide +kernel
theorem dd_Problem_setLimit_25 : decode bb_Problem_setLimit 25 = .ok (.goto (-22), 3) := by decide +kernel
theorem dd_Problem_setLimit_28 : decode bb_Problem_setLimit 28 = .ok (.aload_n 0, 1) := by decide +kernel
theorem dd_Problem_setLimit_29 : decode bb_Problem_setLimit 29 = .ok (.getfield 37, 3) := by decide +kernel
theorem dd_Problem_setLimit_32 : decode bb_Problem_setLimit 32 = .ok (.iload_n 1, 1) := by decide +kernel
theorem dd_Problem_setLimit_33 : decode bb_Problem_setLimit 33 = .ok (.iload_n 3, 1) := by decide +kernel
theorem dd_Problem_setLimit_34 : decode bb_Problem_setLimit 34 = .ok (.iastore, 1) := by decide +kernel
theorem dd_Problem_setLimit_35 : decode bb_Problem_setLimit 35 = .ok (.return_, 1) := by decide +kernel
theorem dd_Problem_isWholeWhereDue_0 : decode bb_Problem_isWholeWhereDue 0 = .ok (.iconst 0, 1) := by decide +kernel
theorem dd_Problem_isWholeWhereDue_1 : decode bb_Problem_isWholeWhereDue 1 = .ok (.istore_n 3, 1) := by decide +kernel
theorem dd_Problem_isWholeWhereDue_2 : decode bb_Problem_isWholeWhereDue 2 = .ok (.iload_n 3, 1) := by decide +kernel
theorem dd_Problem_isWholeWhereDue_3 : decode bb_Problem_isWholeWhereDue 3 = .ok (.aload_n 0, 1) := by decide +kernel
theorem dd_Problem_isWholeWhereDue_4 : decode bb_Problem_isWholeWhereDue 4 = .ok (.getfield 9, 3) := by decide +kernel
theorem dd_Problem_isWholeWhereDue_7 : decode bb_Problem_isWholeWhereDue 7 = .ok (.if_icmp .ge 32, 3) := by decide +kernel
theorem dd_Problem_isWholeWhereDue_10 : decode bb_Problem_isWholeWhereDue 10 = .ok (.aload_n 0, 1) := by decide +kernel
theorem dd_Problem_isWholeWhereDue_11 : decode bb_Problem_isWholeWhereDue 11 = .ok (.getfield 25, 3) := by decide +kernel
theorem dd_Problem_isWholeWhereDue_14 : decode bb_Problem_isWholeWhereDue 14 = .ok (.iload_n 3, 1) := by decide +kernel
theorem dd_Problem_isWholeWhereDue_15 : decode bb_Problem_isWholeWhereDue 15 = .ok (.baload, 1) := by decide +kernel
theorem dd_Problem_isWholeWhereDue_16 : decode bb_Problem_isWholeWhereDue 16 = .ok (.ifCond .eq 17, 3) := by decide +kernel
theorem dd_Problem_isWholeWhereDue_19 : decode bb_Problem_isWholeWhereDue 19 = .ok (.iload_n 2, 1) := by decide +kernel
theorem dd_Problem_isWholeWhereDue_20 : decode bb_Problem_isWholeWhereDue 20 = .ok (.ifCond .eq 13, 3) := by decide +kernel
theorem dd_Problem_isWholeWhereDue_23 : decode bb_Problem_isWholeWhereDue 23 = .ok (.aload_n 1, 1) := by decide +kernel
theorem dd_Problem_isWholeWhereDue_24 : decode bb_Problem_isWholeWhereDue 24 = .ok (.iload_n 3, 1) := by decide +kernel
theorem dd_Problem_isWholeWhereDue_25 : decode bb_Problem_isWholeWhereDue 25 = .ok (.iaload, 1) := by decide +kernel
theorem dd_Problem_isWholeWhereDue_26 : decode bb_Problem_isWholeWhereDue 26 = .ok (.iload_n 2, 1) := by decide +kernel
theorem dd_Problem_isWholeWhereDue_27 : decode bb_Problem_isWholeWhereDue 27 = .ok (.irem, 1) := by decide +kernel
theorem dd_Problem_isWholeWhereDue_28 : decode bb_Problem_isWholeWhereDue 28 = .ok (.ifCond .eq 5, 3) := by decide +kernel
theorem dd_Problem_isWholeWhereDue_31 : decode bb_Problem_isWholeWhereDue 31 = .ok (.iconst 0, 1) := by decide +kernel
theorem dd_Problem_isWholeWhereDue_32 : decode bb_Problem_isWholeWhereDue 32 = .ok (.ireturn, 1) := by decide +kernel
theorem dd_Problem_isWholeWhereDue_33 : decode bb_Problem_isWholeWhereDue 33 = .ok (.iinc 3 1, 3) := by decide +kernel
theorem dd_Problem_isWholeWhereDue_36 : decode bb_Problem_isWholeWhereDue 36 = .ok (.goto (-34), 3) := by decide +kernel
theorem dd_Problem_isWholeWhereDue_39 : decode bb_Problem_isWholeWhereDue 39 = .ok (.iconst 1, 1) := by decide +kernel
theorem dd_Problem_isWholeWhereDue_40 : decode bb_Problem_isWholeWhereDue 40 = .ok (.ireturn, 1) := by decide +kernel
theorem dd_Problem_isKept_0 : decode bb_Problem_isKept 0 = .ok (.iconst 0, 1) := by decide +kernel
theorem dd_Problem_isKept_1 : decode bb_Problem_isKept 1 = .ok (.istore_n 3, 1) := by decide +kernel
theorem dd_Problem_isKept_2 : decode bb_Problem_isKept 2 = .ok (.iload_n 3, 1) := by decide +kernel
theorem dd_Problem_isKept_3 : decode bb_Problem_isKept 3 = .ok (.aload_n 0, 1) := by decide +kernel
theorem dd_Problem_isKept_4 : decode bb_Problem_isKept 4 = .ok (.getfield 9, 3) := by decide +kernel
theorem dd_Problem_isKept_7 : decode bb_Problem_isKept 7 = .ok (.if_icmp .ge 47, 3) := by decide +kernel
theorem dd_Problem_isKept_10 : decode bb_Problem_isKept 10 = .ok (.aload_n 1, 1) := by decide +kernel
theorem dd_Problem_isKept_11 : decode bb_Problem_isKept 11 = .ok (.iload_n 3, 1) := by decide +kernel
theorem dd_Problem_isKept_12 : decode bb_Problem_isKept 12 = .ok (.iaload, 1) := by decide +kernel
theorem dd_Problem_isKept_13 : decode bb_Problem_isKept 13 = .ok (.i2l, 1) := by decide +kernel
theorem dd_Problem_isKept_14 : decode bb_Problem_isKept 14 = .ok (.aload_n 0, 1) := by decide +kernel
theorem dd_Problem_isKept_15 : decode bb_Problem_isKept 15 = .ok (.getfield 18, 3) := by decide +kernel
theorem dd_Problem_isKept_18 : decode bb_Problem_isKept 18 = .ok (.iload_n 3, 1) := by decide +kernel
theorem dd_Problem_isKept_19 : decode bb_Problem_isKept 19 = .ok (.iaload, 1) := by decide +kernel
theorem dd_Problem_isKept_20 : decode bb_Problem_isKept 20 = .ok (.i2l, 1) := by decide +kernel
theorem dd_Problem_isKept_21 : decode bb_Problem_isKept 21 = .ok (.iload_n 2, 1) := by decide +kernel
theorem dd_Problem_isKept_22 : decode bb_Problem_isKept 22 = .ok (.i2l, 1) := by decide +kernel
theorem dd_Problem_isKept_23 : decode bb_Problem_isKept 23 = .ok (.lmul, 1) := by decide +kernel
theorem dd_Problem_isKept_24 : decode bb_Problem_isKept 24 = .ok (.lcmp, 1) := by decide +kernel
theorem dd_Problem_isKept_25 : decode bb_Problem_isKept 25 = .ok (.ifCond .lt 21, 3) := by decide +kernel
theorem dd_Problem_isKept_28 : decode bb_Problem_isKept 28 = .ok (.aload_n 1, 1) := by decide +kernel
theorem dd_Problem_isKept_29 : decode bb_Problem_isKept 29 = .ok (.iload_n 3, 1) := by decide +kernel
theorem dd_Problem_isKept_30 : decode bb_Problem_isKept 30 = .ok (.iaload, 1) := by decide +kernel
theorem dd_Problem_isKept_31 : decode bb_Problem_isKept 31 = .ok (.i2l, 1) := by decide +kernel
theorem dd_Problem_isKept_32 : decode bb_Problem_isKept 32 = .ok (.aload_n 0, 1) := by decide +kernel
theorem dd_Problem_isKept_33 : decode bb_Problem_isKept 33 = .ok (.getfield 22, 3) := by decide +kernel
theorem dd_Problem_isKept_36 : decode bb_Problem_isKept 36 = .ok (.iload_n 3, 1) := by decide +kernel
theorem dd_Problem_isKept_37 : decode bb_Problem_isKept 37 = .ok (.iaload, 1) := by decide +kernel
theorem dd_Problem_isKept_38 : decode bb_Problem_isKept 38 = .ok (.i2l, 1) := by decide +kernel
theorem dd_Problem_isKept_39 : decode bb_Problem_isKept 39 = .ok (.iload_n 2, 1) := by decide +kernel
theorem dd_Problem_isKept_40 : decode bb_Problem_isKept 40 = .ok (.i2l, 1) := by decide +kernel
theorem dd_Problem_isKept_41 : decode bb_Problem_isKept 41 = .ok (.lmul, 1) := by decide +kernel
theorem dd_Problem_isKept_42 : decode bb_Problem_isKept 42 = .ok (.lcmp, 1) := by decide +kernel
theorem dd_Problem_isKept_43 : decode bb_Problem_isKept 43 = .ok (.ifCond .le 5, 3) := by decide +kernel
theorem dd_Problem_isKept_46 : decode bb_Problem_isKept 46 = .ok (.iconst 0, 1) := by decide +kernel
theorem dd_Problem_isKept_47 : decode bb_Problem_isKept 47 = .ok (.ireturn, 1) := by decide +kernel
theorem dd_Problem_isKept_48 : decode bb_Problem_isKept 48 = .ok (.iinc 3 1, 3) := by decide +kernel
theorem dd_Problem_isKept_51 : decode bb_Problem_isKept 51 = .ok (.goto (-49), 3) := by decide +kernel
theorem dd_Problem_isKept_54 : decode bb_Problem_isKept 54 = .ok (.iconst 0, 1) := by decide +kernel
theorem dd_Problem_isKept_55 : decode bb_Problem_isKept 55 = .ok (.istore_n 3, 1) := by decide +kernel
theorem dd_Problem_isKept_56 : decode bb_Problem_isKept 56 = .ok (.iload_n 3, 1) := by decide +kernel
theorem dd_Problem_isKept_57 : decode bb_Problem_isKept 57 = .ok (.aload_n 0, 1) := by decide +kernel
theorem dd_Problem_isKept_58 : decode bb_Problem_isKept 58 = .ok (.getfield 15, 3) := by decide +kernel
theorem dd_Problem_isKept_61 : decode bb_Problem_isKept 61 = .ok (.if_icmp .ge 36, 3) := by decide +kernel
theorem dd_Problem_isKept_64 : decode bb_Problem_isKept 64 = .ok (.aload_n 0, 1) := by decide +kernel
theorem dd_Problem_isKept_65 : decode bb_Problem_isKept 65 = .ok (.aload_n 0, 1) := by decide +kernel
theorem dd_Problem_isKept_66 : decode bb_Problem_isKept 66 = .ok (.getfield 34, 3) := by decide +kernel
theorem dd_Problem_isKept_69 : decode bb_Problem_isKept 69 = .ok (.iload_n 3, 1) := by decide +kernel
theorem dd_Problem_isKept_70 : decode bb_Problem_isKept 70 = .ok (.aaload, 1) := by decide +kernel
theorem dd_Problem_isKept_71 : decode bb_Problem_isKept 71 = .ok (.aload_n 1, 1) := by decide +kernel
theorem dd_Problem_isKept_72 : decode bb_Problem_isKept 72 = .ok (.invokevirtual 44, 3) := by decide +kernel
theorem dd_Problem_isKept_75 : decode bb_Problem_isKept 75 = .ok (.aload_n 0, 1) := by decide +kernel
theorem dd_Problem_isKept_76 : decode bb_Problem_isKept 76 = .ok (.getfield 37, 3) := by decide +kernel
theorem dd_Problem_isKept_79 : decode bb_Problem_isKept 79 = .ok (.iload_n 3, 1) := by decide +kernel
theorem dd_Problem_isKept_80 : decode bb_Problem_isKept 80 = .ok (.iaload, 1) := by decide +kernel
theorem dd_Problem_isKept_81 : decode bb_Problem_isKept 81 = .ok (.i2l, 1) := by decide +kernel
theorem dd_Problem_isKept_82 : decode bb_Problem_isKept 82 = .ok (.iload_n 2, 1) := by decide +kernel
theorem dd_Problem_isKept_83 : decode bb_Problem_isKept 83 = .ok (.i2l, 1) := by decide +kernel
theorem dd_Problem_isKept_84 : decode bb_Problem_isKept 84 = .ok (.lmul, 1) := by decide +kernel
theorem dd_Problem_isKept_85 : decode bb_Problem_isKept 85 = .ok (.lcmp, 1) := by decide +kernel
theorem dd_Problem_isKept_86 : decode bb_Problem_isKept 86 = .ok (.ifCond .le 5, 3) := by decide +kernel
theorem dd_Problem_isKept_89 : decode bb_Problem_isKept 89 = .ok (.iconst 0, 1) := by decide +kernel
theorem dd_Problem_isKept_90 : decode bb_Problem_isKept 90 = .ok (.ireturn, 1) := by decide +kernel
theorem dd_Problem_isKept_91 : decode bb_Problem_isKept 91 = .ok (.iinc 3 1, 3) := by decide +kernel
theorem dd_Problem_isKept_94 : decode bb_Problem_isKept 94 = .ok (.goto (-38), 3) := by decide +kernel
theorem dd_Problem_isKept_97 : decode bb_Problem_isKept 97 = .ok (.iconst 1, 1) := by decide +kernel
theorem dd_Problem_isKept_98 : decode bb_Problem_isKept 98 = .ok (.ireturn, 1) := by decide +kernel
theorem dd_Problem_weigh_0 : decode bb_Problem_weigh 0 = .ok (.lconst 0, 1) := by decide +kernel
theorem dd_Problem_weigh_1 : decode bb_Problem_weigh 1 = .ok (.lstore_n 3, 1) := by decide +kernel
theorem dd_Problem_weigh_2 : decode bb_Problem_weigh 2 = .ok (.iconst 0, 1) := by decide +kernel
theorem dd_Problem_weigh_3 : decode bb_Problem_weigh 3 = .ok (.istore 5, 2) := by decide +kernel
theorem dd_Problem_weigh_5 : decode bb_Problem_weigh 5 = .ok (.iload 5, 2) := by decide +kernel
theorem dd_Problem_weigh_7 : decode bb_Problem_weigh 7 = .ok (.aload_n 0, 1) := by decide +kernel
theorem dd_Problem_weigh_8 : decode bb_Problem_weigh 8 = .ok (.getfield 9, 3) := by decide +kernel
theorem dd_Problem_weigh_11 : decode bb_Problem_weigh 11 = .ok (.if_icmp .ge 23, 3) := by decide +kernel
theorem dd_Problem_weigh_14 : decode bb_Problem_weigh 14 = .ok (.lload_n 3, 1) := by decide +kernel
theorem dd_Problem_weigh_15 : decode bb_Problem_weigh 15 = .ok (.aload_n 1, 1) := by decide +kernel
theorem dd_Problem_weigh_16 : decode bb_Problem_weigh 16 = .ok (.iload 5, 2) := by decide +kernel
theorem dd_Problem_weigh_18 : decode bb_Problem_weigh 18 = .ok (.iaload, 1) := by decide +kernel
theorem dd_Problem_weigh_19 : decode bb_Problem_weigh 19 = .ok (.i2l, 1) := by decide +kernel
theorem dd_Problem_weigh_20 : decode bb_Problem_weigh 20 = .ok (.aload_n 2, 1) := by decide +kernel
theorem dd_Problem_weigh_21 : decode bb_Problem_weigh 21 = .ok (.iload 5, 2) := by decide +kernel
theorem dd_Problem_weigh_23 : decode bb_Problem_weigh 23 = .ok (.iaload, 1) := by decide +kernel
theorem dd_Problem_weigh_24 : decode bb_Problem_weigh 24 = .ok (.i2l, 1) := by decide +kernel
theorem dd_Problem_weigh_25 : decode bb_Problem_weigh 25 = .ok (.lmul, 1) := by decide +kernel
theorem dd_Problem_weigh_26 : decode bb_Problem_weigh 26 = .ok (.ladd, 1) := by decide +kernel
theorem dd_Problem_weigh_27 : decode bb_Problem_weigh 27 = .ok (.lstore_n 3, 1) := by decide +kernel
theorem dd_Problem_weigh_28 : decode bb_Problem_weigh 28 = .ok (.iinc 5 1, 3) := by decide +kernel
theorem dd_Problem_weigh_31 : decode bb_Problem_weigh 31 = .ok (.goto (-26), 3) := by decide +kernel
theorem dd_Problem_weigh_34 : decode bb_Problem_weigh 34 = .ok (.lload_n 3, 1) := by decide +kernel
theorem dd_Problem_weigh_35 : decode bb_Problem_weigh 35 = .ok (.lreturn, 1) := by decide +kernel
theorem dd_Problem_leastCost_0 : decode bb_Problem_leastCost 0 = .ok (.aload_n 0, 1) := by decide +kernel
theorem dd_Problem_leastCost_1 : decode bb_Problem_leastCost 1 = .ok (.getfield 29, 3) := by decide +kernel
theorem dd_Problem_leastCost_4 : decode bb_Problem_leastCost 4 = .ok (.iload_n 1, 1) := by decide +kernel
theorem dd_Problem_leastCost_5 : decode bb_Problem_leastCost 5 = .ok (.iaload, 1) := by decide +kernel
theorem dd_Problem_leastCost_6 : decode bb_Problem_leastCost 6 = .ok (.ifCond .lt 19, 3) := by decide +kernel
theorem dd_Problem_leastCost_9 : decode bb_Problem_leastCost 9 = .ok (.aload_n 0, 1) := by decide +kernel
theorem dd_Problem_leastCost_10 : decode bb_Problem_leastCost 10 = .ok (.getfield 29, 3) := by decide +kernel
theorem dd_Problem_leastCost_13 : decode bb_Problem_leastCost 13 = .ok (.iload_n 1, 1) := by decide +kernel
theorem dd_Problem_leastCost_14 : decode bb_Problem_leastCost 14 = .ok (.iaload, 1) := by decide +kernel
theorem dd_Problem_leastCost_15 : decode bb_Problem_leastCost 15 = .ok (.aload_n 0, 1) := by decide +kernel
theorem dd_Problem_leastCost_16 : decode bb_Problem_leastCost 16 = .ok (.getfield 18, 3) := by decide +kernel
theorem dd_Problem_leastCost_19 : decode bb_Problem_leastCost 19 = .ok (.iload_n 1, 1) := by decide +kernel
theorem dd_Problem_leastCost_20 : decode bb_Problem_leastCost 20 = .ok (.iaload, 1) := by decide +kernel
theorem dd_Problem_leastCost_21 : decode bb_Problem_leastCost 21 = .ok (.imul, 1) := by decide +kernel
theorem dd_Problem_leastCost_22 : decode bb_Problem_leastCost 22 = .ok (.goto 16, 3) := by decide +kernel
theorem dd_Problem_leastCost_25 : decode bb_Problem_leastCost 25 = .ok (.aload_n 0, 1) := by decide +kernel
theorem dd_Problem_leastCost_26 : decode bb_Problem_leastCost 26 = .ok (.getfield 29, 3) := by decide +kernel
theorem dd_Problem_leastCost_29 : decode bb_Problem_leastCost 29 = .ok (.iload_n 1, 1) := by decide +kernel
theorem dd_Problem_leastCost_30 : decode bb_Problem_leastCost 30 = .ok (.iaload, 1) := by decide +kernel
theorem dd_Problem_leastCost_31 : decode bb_Problem_leastCost 31 = .ok (.aload_n 0, 1) := by decide +kernel
theorem dd_Problem_leastCost_32 : decode bb_Problem_leastCost 32 = .ok (.getfield 22, 3) := by decide +kernel
theorem dd_Problem_leastCost_35 : decode bb_Problem_leastCost 35 = .ok (.iload_n 1, 1) := by decide +kernel
theorem dd_Problem_leastCost_36 : decode bb_Problem_leastCost 36 = .ok (.iaload, 1) := by decide +kernel
theorem dd_Problem_leastCost_37 : decode bb_Problem_leastCost 37 = .ok (.imul, 1) := by decide +kernel
theorem dd_Problem_leastCost_38 : decode bb_Problem_leastCost 38 = .ok (.ireturn, 1) := by decide +kernel
