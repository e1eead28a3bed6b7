theorem dX0_init_0 : decode cX0_init 0 = .ok (.aload_n 0, 1) := by decide +kernel
theorem dX0_init_1 : decode cX0_init 1 = .ok (.invokespecial 3, 3) := by decide +kernel
theorem dX0_init_4 : decode cX0_init 4 = .ok (.aload_n 0, 1) := by decide +kernel
theorem dX0_init_5 : decode cX0_init 5 = .ok (.bipush 9, 2) := by decide +kernel
theorem dX0_init_7 : decode cX0_init 7 = .ok (.newarray .int, 2) := by decide +kernel
theorem dX0_init_9 : decode cX0_init 9 = .ok (.putfield 11, 3) := by decide +kernel
theorem dX0_init_12 : decode cX0_init 12 = .ok (.aload_n 0, 1) := by decide +kernel
theorem dX0_init_13 : decode cX0_init 13 = .ok (.bipush 9, 2) := by decide +kernel
theorem dX0_init_15 : decode cX0_init 15 = .ok (.newarray .int, 2) := by decide +kernel
theorem dX0_init_17 : decode cX0_init 17 = .ok (.putfield 15, 3) := by decide +kernel
theorem dX0_init_20 : decode cX0_init 20 = .ok (.aload_n 0, 1) := by decide +kernel
theorem dX0_init_21 : decode cX0_init 21 = .ok (.bipush 9, 2) := by decide +kernel
theorem dX0_init_23 : decode cX0_init 23 = .ok (.newarray .int, 2) := by decide +kernel
theorem dX0_init_25 : decode cX0_init 25 = .ok (.putfield 18, 3) := by decide +kernel
theorem dX0_init_28 : decode cX0_init 28 = .ok (.return_, 1) := by decide +kernel
theorem dX0_slotOf_0 : decode cX0_slotOf 0 = .ok (.iload_n 0, 1) := by decide +kernel
theorem dX0_slotOf_1 : decode cX0_slotOf 1 = .ok (.bipush 9, 2) := by decide +kernel
theorem dX0_slotOf_3 : decode cX0_slotOf 3 = .ok (.invokestatic 21, 3) := by decide +kernel
theorem dX0_slotOf_6 : decode cX0_slotOf 6 = .ok (.ireturn, 1) := by decide +kernel
theorem dX0_fallingIn_0 : decode cX0_fallingIn 0 = .ok (.iload_n 1, 1) := by decide +kernel
theorem dX0_fallingIn_1 : decode cX0_fallingIn 1 = .ok (.invokestatic 27, 3) := by decide +kernel
theorem dX0_fallingIn_4 : decode cX0_fallingIn 4 = .ok (.istore_n 2, 1) := by decide +kernel
theorem dX0_fallingIn_5 : decode cX0_fallingIn 5 = .ok (.aload_n 0, 1) := by decide +kernel
theorem dX0_fallingIn_6 : decode cX0_fallingIn 6 = .ok (.getfield 11, 3) := by decide +kernel
theorem dX0_fallingIn_9 : decode cX0_fallingIn 9 = .ok (.iload_n 2, 1) := by decide +kernel
theorem dX0_fallingIn_10 : decode cX0_fallingIn 10 = .ok (.iaload, 1) := by decide +kernel
theorem dX0_fallingIn_11 : decode cX0_fallingIn 11 = .ok (.aload_n 0, 1) := by decide +kernel
theorem dX0_fallingIn_12 : decode cX0_fallingIn 12 = .ok (.getfield 15, 3) := by decide +kernel
theorem dX0_fallingIn_15 : decode cX0_fallingIn 15 = .ok (.iload_n 2, 1) := by decide +kernel
theorem dX0_fallingIn_16 : decode cX0_fallingIn 16 = .ok (.iaload, 1) := by decide +kernel
theorem dX0_fallingIn_17 : decode cX0_fallingIn 17 = .ok (.iadd, 1) := by decide +kernel
theorem dX0_fallingIn_18 : decode cX0_fallingIn 18 = .ok (.aload_n 0, 1) := by decide +kernel
theorem dX0_fallingIn_19 : decode cX0_fallingIn 19 = .ok (.getfield 18, 3) := by decide +kernel
theorem dX0_fallingIn_22 : decode cX0_fallingIn 22 = .ok (.iload_n 2, 1) := by decide +kernel
theorem dX0_fallingIn_23 : decode cX0_fallingIn 23 = .ok (.iaload, 1) := by decide +kernel
theorem dX0_fallingIn_24 : decode cX0_fallingIn 24 = .ok (.iadd, 1) := by decide +kernel
theorem dX0_fallingIn_25 : decode cX0_fallingIn 25 = .ok (.ireturn, 1) := by decide +kernel
theorem dX0_fallingOnBasin_0 : decode cX0_fallingOnBasin 0 = .ok (.aload_n 0, 1) := by decide +kernel
theorem dX0_fallingOnBasin_1 : decode cX0_fallingOnBasin 1 = .ok (.getfield 11, 3) := by decide +kernel
theorem dX0_fallingOnBasin_4 : decode cX0_fallingOnBasin 4 = .ok (.iload_n 1, 1) := by decide +kernel
theorem dX0_fallingOnBasin_5 : decode cX0_fallingOnBasin 5 = .ok (.invokestatic 27, 3) := by decide +kernel
theorem dX0_fallingOnBasin_8 : decode cX0_fallingOnBasin 8 = .ok (.iaload, 1) := by decide +kernel
theorem dX0_fallingOnBasin_9 : decode cX0_fallingOnBasin 9 = .ok (.ireturn, 1) := by decide +kernel
theorem dX0_fallingOnCrowd_0 : decode cX0_fallingOnCrowd 0 = .ok (.aload_n 0, 1) := by decide +kernel
theorem dX0_fallingOnCrowd_1 : decode cX0_fallingOnCrowd 1 = .ok (.getfield 15, 3) := by decide +kernel
theorem dX0_fallingOnCrowd_4 : decode cX0_fallingOnCrowd 4 = .ok (.iload_n 1, 1) := by decide +kernel
theorem dX0_fallingOnCrowd_5 : decode cX0_fallingOnCrowd 5 = .ok (.invokestatic 27, 3) := by decide +kernel
theorem dX0_fallingOnCrowd_8 : decode cX0_fallingOnCrowd 8 = .ok (.iaload, 1) := by decide +kernel
theorem dX0_fallingOnCrowd_9 : decode cX0_fallingOnCrowd 9 = .ok (.ireturn, 1) := by decide +kernel
theorem dX0_clear_0 : decode cX0_clear 0 = .ok (.iload_n 1, 1) := by decide +kernel
theorem dX0_clear_1 : decode cX0_clear 1 = .ok (.invokestatic 27, 3) := by decide +kernel
theorem dX0_clear_4 : decode cX0_clear 4 = .ok (.istore_n 2, 1) := by decide +kernel
theorem dX0_clear_5 : decode cX0_clear 5 = .ok (.aload_n 0, 1) := by decide +kernel
theorem dX0_clear_6 : decode cX0_clear 6 = .ok (.getfield 11, 3) := by decide +kernel
theorem dX0_clear_9 : decode cX0_clear 9 = .ok (.iload_n 2, 1) := by decide +kernel
theorem dX0_clear_10 : decode cX0_clear 10 = .ok (.iconst 0, 1) := by decide +kernel
theorem dX0_clear_11 : decode cX0_clear 11 = .ok (.iastore, 1) := by decide +kernel
theorem dX0_clear_12 : decode cX0_clear 12 = .ok (.aload_n 0, 1) := by decide +kernel
theorem dX0_clear_13 : decode cX0_clear 13 = .ok (.getfield 15, 3) := by decide +kernel
theorem dX0_clear_16 : decode cX0_clear 16 = .ok (.iload_n 2, 1) := by decide +kernel
theorem dX0_clear_17 : decode cX0_clear 17 = .ok (.iconst 0, 1) := by decide +kernel
theorem dX0_clear_18 : decode cX0_clear 18 = .ok (.iastore, 1) := by decide +kernel
theorem dX0_clear_19 : decode cX0_clear 19 = .ok (.aload_n 0, 1) := by decide +kernel
theorem dX0_clear_20 : decode cX0_clear 20 = .ok (.getfield 18, 3) := by decide +kernel
theorem dX0_clear_23 : decode cX0_clear 23 = .ok (.iload_n 2, 1) := by decide +kernel
theorem dX0_clear_24 : decode cX0_clear 24 = .ok (.iconst 0, 1) := by decide +kernel
theorem dX0_clear_25 : decode cX0_clear 25 = .ok (.iastore, 1) := by decide +kernel
theorem dX0_clear_26 : decode cX0_clear 26 = .ok (.return_, 1) := by decide +kernel
theorem dX0_all_0 : decode cX0_all 0 = .ok (.iconst 0, 1) := by decide +kernel
theorem dX0_all_1 : decode cX0_all 1 = .ok (.istore_n 1, 1) := by decide +kernel
theorem dX0_all_2 : decode cX0_all 2 = .ok (.iconst 0, 1) := by decide +kernel
theorem dX0_all_3 : decode cX0_all 3 = .ok (.istore_n 2, 1) := by decide +kernel
theorem dX0_all_4 : decode cX0_all 4 = .ok (.iload_n 2, 1) := by decide +kernel
theorem dX0_all_5 : decode cX0_all 5 = .ok (.bipush 9, 2) := by decide +kernel
theorem dX0_all_7 : decode cX0_all 7 = .ok (.if_icmp .ge 32, 3) := by decide +kernel
theorem dX0_all_10 : decode cX0_all 10 = .ok (.iload_n 1, 1) := by decide +kernel
theorem dX0_all_11 : decode cX0_all 11 = .ok (.aload_n 0, 1) := by decide +kernel
theorem dX0_all_12 : decode cX0_all 12 = .ok (.getfield 11, 3) := by decide +kernel
theorem dX0_all_15 : decode cX0_all 15 = .ok (.iload_n 2, 1) := by decide +kernel
theorem dX0_all_16 : decode cX0_all 16 = .ok (.iaload, 1) := by decide +kernel
theorem dX0_all_17 : decode cX0_all 17 = .ok (.aload_n 0, 1) := by decide +kernel
theorem dX0_all_18 : decode cX0_all 18 = .ok (.getfield 15, 3) := by decide +kernel
theorem dX0_all_21 : decode cX0_all 21 = .ok (.iload_n 2, 1) := by decide +kernel
theorem dX0_all_22 : decode cX0_all 22 = .ok (.iaload, 1) := by decide +kernel
theorem dX0_all_23 : decode cX0_all 23 = .ok (.iadd, 1) := by decide +kernel
theorem dX0_all_24 : decode cX0_all 24 = .ok (.aload_n 0, 1) := by decide +kernel
theorem dX0_all_25 : decode cX0_all 25 = .ok (.getfield 18, 3) := by decide +kernel
theorem dX0_all_28 : decode cX0_all 28 = .ok (.iload_n 2, 1) := by decide +kernel
theorem dX0_all_29 : decode cX0_all 29 = .ok (.iaload, 1) := by decide +kernel
theorem dX0_all_30 : decode cX0_all 30 = .ok (.iadd, 1) := by decide +kernel
theorem dX0_all_31 : decode cX0_all 31 = .ok (.iadd, 1) := by decide +kernel
theorem dX0_all_32 : decode cX0_all 32 = .ok (.istore_n 1, 1) := by decide +kernel
theorem dX0_all_33 : decode cX0_all 33 = .ok (.iinc 2 1, 3) := by decide +kernel
theorem dX0_all_36 : decode cX0_all 36 = .ok (.goto (-32), 3) := by decide +kernel
theorem dX0_all_39 : decode cX0_all 39 = .ok (.iload_n 1, 1) := by decide +kernel
theorem dX0_all_40 : decode cX0_all 40 = .ok (.ireturn, 1) := by decide +kernel
theorem dX0_becomeLike_0 : decode cX0_becomeLike 0 = .ok (.aload_n 1, 1) := by decide +kernel
theorem dX0_becomeLike_1 : decode cX0_becomeLike 1 = .ok (.getfield 11, 3) := by decide +kernel
theorem dX0_becomeLike_4 : decode cX0_becomeLike 4 = .ok (.iconst 0, 1) := by decide +kernel
theorem dX0_becomeLike_5 : decode cX0_becomeLike 5 = .ok (.aload_n 0, 1) := by decide +kernel
theorem dX0_becomeLike_6 : decode cX0_becomeLike 6 = .ok (.getfield 11, 3) := by decide +kernel
theorem dX0_becomeLike_9 : decode cX0_becomeLike 9 = .ok (.iconst 0, 1) := by decide +kernel
theorem dX0_becomeLike_10 : decode cX0_becomeLike 10 = .ok (.bipush 9, 2) := by decide +kernel
theorem dX0_becomeLike_12 : decode cX0_becomeLike 12 = .ok (.invokestatic 31, 3) := by decide +kernel
theorem dX0_becomeLike_15 : decode cX0_becomeLike 15 = .ok (.aload_n 1, 1) := by decide +kernel
theorem dX0_becomeLike_16 : decode cX0_becomeLike 16 = .ok (.getfield 15, 3) := by decide +kernel
theorem dX0_becomeLike_19 : decode cX0_becomeLike 19 = .ok (.iconst 0, 1) := by decide +kernel
theorem dX0_becomeLike_20 : decode cX0_becomeLike 20 = .ok (.aload_n 0, 1) := by decide +kernel
theorem dX0_becomeLike_21 : decode cX0_becomeLike 21 = .ok (.getfield 15, 3) := by decide +kernel
theorem dX0_becomeLike_24 : decode cX0_becomeLike 24 = .ok (.iconst 0, 1) := by decide +kernel
theorem dX0_becomeLike_25 : decode cX0_becomeLike 25 = .ok (.bipush 9, 2) := by decide +kernel
theorem dX0_becomeLike_27 : decode cX0_becomeLike 27 = .ok (.invokestatic 31, 3) := by decide +kernel
theorem dX0_becomeLike_30 : decode cX0_becomeLike 30 = .ok (.aload_n 1, 1) := by decide +kernel
theorem dX0_becomeLike_31 : decode cX0_becomeLike 31 = .ok (.getfield 18, 3) := by decide +kernel
theorem dX0_becomeLike_34 : decode cX0_becomeLike 34 = .ok (.iconst 0, 1) := by decide +kernel
theorem dX0_becomeLike_35 : decode cX0_becomeLike 35 = .ok (.aload_n 0, 1) := by decide +kernel
theorem dX0_becomeLike_36 : decode cX0_becomeLike 36 = .ok (.getfield 18, 3) := by decide +kernel
theorem dX0_becomeLike_39 : decode cX0_becomeLike 39 = .ok (.iconst 0, 1) := by decide +kernel
theorem dX0_becomeLike_40 : decode cX0_becomeLike 40 = .ok (.bipush 9, 2) := by decide +kernel
theorem dX0_becomeLike_42 : decode cX0_becomeLike 42 = .ok (.invokestatic 31, 3) := by decide +kernel
theorem dX0_becomeLike_45 : decode cX0_becomeLike 45 = .ok (.return_, 1) := by decide +kernel
theorem dX2_init_0 : decode cX2_init 0 = .ok (.aload_n 0, 1) := by decide +kernel
theorem dX2_init_1 : decode cX2_init 1 = .ok (.invokespecial 1, 3) := by decide +kernel
theorem dX2_init_4 : decode cX2_init 4 = .ok (.aload_n 0, 1) := by decide +kernel
theorem dX2_init_5 : decode cX2_init 5 = .ok (.new 7, 3) := by decide +kernel
theorem dX2_init_8 : decode cX2_init 8 = .ok (.dup, 1) := by decide +kernel
theorem dX2_init_9 : decode cX2_init 9 = .ok (.invokespecial 9, 3) := by decide +kernel
theorem dX2_init_12 : decode cX2_init 12 = .ok (.putfield 10, 3) := by decide +kernel
theorem dX2_init_15 : decode cX2_init 15 = .ok (.return_, 1) := by decide +kernel
theorem dX4_init_0 : decode cX4_init 0 = .ok (.aload_n 0, 1) := by decide +kernel
theorem dX4_init_1 : decode cX4_init 1 = .ok (.invokespecial 1, 3) := by decide +kernel
theorem dX4_init_4 : decode cX4_init 4 = .ok (.aload_n 0, 1) := by decide +kernel
theorem dX4_init_5 : decode cX4_init 5 = .ok (.iload_n 1, 1) := by decide +kernel
theorem dX4_init_6 : decode cX4_init 6 = .ok (.putfield 7, 3) := by decide +kernel
theorem dX4_init_9 : decode cX4_init 9 = .ok (.aload_n 0, 1) := by decide +kernel
theorem dX4_init_10 : decode cX4_init 10 = .ok (.iload_n 2, 1) := by decide +kernel
theorem dX4_init_11 : decode cX4_init 11 = .ok (.putfield 13, 3) := by decide +kernel
theorem dX4_init_14 : decode cX4_init 14 = .ok (.return_, 1) := by decide +kernel
theorem dX5_init_0 : decode cX5_init 0 = .ok (.aload_n 0, 1) := by decide +kernel
theorem dX5_init_1 : decode cX5_init 1 = .ok (.invokespecial 3, 3) := by decide +kernel
theorem dX5_init_4 : decode cX5_init 4 = .ok (.aload_n 0, 1) := by decide +kernel
theorem dX5_init_5 : decode cX5_init 5 = .ok (.new 9, 3) := by decide +kernel
theorem dX5_init_8 : decode cX5_init 8 = .ok (.dup, 1) := by decide +kernel
theorem dX5_init_9 : decode cX5_init 9 = .ok (.invokespecial 11, 3) := by decide +kernel
theorem dX5_init_12 : decode cX5_init 12 = .ok (.putfield 12, 3) := by decide +kernel
theorem dX5_init_15 : decode cX5_init 15 = .ok (.aload_n 0, 1) := by decide +kernel
theorem dX5_init_16 : decode cX5_init 16 = .ok (.new 9, 3) := by decide +kernel
theorem dX5_init_19 : decode cX5_init 19 = .ok (.dup, 1) := by decide +kernel
theorem dX5_init_20 : decode cX5_init 20 = .ok (.invokespecial 11, 3) := by decide +kernel
theorem dX5_init_23 : decode cX5_init 23 = .ok (.putfield 18, 3) := by decide +kernel
theorem dX5_init_26 : decode cX5_init 26 = .ok (.aload_n 0, 1) := by decide +kernel
theorem dX5_init_27 : decode cX5_init 27 = .ok (.new 9, 3) := by decide +kernel
theorem dX5_init_30 : decode cX5_init 30 = .ok (.dup, 1) := by decide +kernel
theorem dX5_init_31 : decode cX5_init 31 = .ok (.invokespecial 11, 3) := by decide +kernel
theorem dX5_init_34 : decode cX5_init 34 = .ok (.putfield 21, 3) := by decide +kernel
theorem dX5_init_37 : decode cX5_init 37 = .ok (.aload_n 0, 1) := by decide +kernel
theorem dX5_init_38 : decode cX5_init 38 = .ok (.new 24, 3) := by decide +kernel
theorem dX5_init_41 : decode cX5_init 41 = .ok (.dup, 1) := by decide +kernel
theorem dX5_init_42 : decode cX5_init 42 = .ok (.invokespecial 26, 3) := by decide +kernel
theorem dX5_init_45 : decode cX5_init 45 = .ok (.putfield 27, 3) := by decide +kernel
theorem dX5_init_48 : decode cX5_init 48 = .ok (.aload_n 0, 1) := by decide +kernel
theorem dX5_init_49 : decode cX5_init 49 = .ok (.sipush 3000, 3) := by decide +kernel
theorem dX5_init_52 : decode cX5_init 52 = .ok (.putfield 31, 3) := by decide +kernel
theorem dX5_init_55 : decode cX5_init 55 = .ok (.return_, 1) := by decide +kernel
theorem dX5_tick_0 : decode cX5_tick 0 = .ok (.aload_n 0, 1) := by decide +kernel
theorem dX5_tick_1 : decode cX5_tick 1 = .ok (.dup, 1) := by decide +kernel
theorem dX5_tick_2 : decode cX5_tick 2 = .ok (.getfield 62, 3) := by decide +kernel
theorem dX5_tick_5 : decode cX5_tick 5 = .ok (.iconst 1, 1) := by decide +kernel
theorem dX5_tick_6 : decode cX5_tick 6 = .ok (.iadd, 1) := by decide +kernel
theorem dX5_tick_7 : decode cX5_tick 7 = .ok (.putfield 62, 3) := by decide +kernel
theorem dX5_tick_10 : decode cX5_tick 10 = .ok (.aload_n 0, 1) := by decide +kernel
theorem dX5_tick_11 : decode cX5_tick 11 = .ok (.getfield 65, 3) := by decide +kernel
theorem dX5_tick_14 : decode cX5_tick 14 = .ok (.ifCond .ne 7, 3) := by decide +kernel
theorem dX5_tick_17 : decode cX5_tick 17 = .ok (.aload_n 0, 1) := by decide +kernel
theorem dX5_tick_18 : decode cX5_tick 18 = .ok (.invokevirtual 69, 3) := by decide +kernel
theorem dX5_tick_21 : decode cX5_tick 21 = .ok (.aload_n 0, 1) := by decide +kernel
theorem dX5_tick_22 : decode cX5_tick 22 = .ok (.invokevirtual 72, 3) := by decide +kernel
theorem dX5_tick_25 : decode cX5_tick 25 = .ok (.aload_n 0, 1) := by decide +kernel
theorem dX5_tick_26 : decode cX5_tick 26 = .ok (.invokevirtual 75, 3) := by decide +kernel
theorem dX5_tick_29 : decode cX5_tick 29 = .ok (.istore_n 1, 1) := by decide +kernel
theorem dX5_tick_30 : decode cX5_tick 30 = .ok (.aload_n 0, 1) := by decide +kernel
theorem dX5_tick_31 : decode cX5_tick 31 = .ok (.invokevirtual 78, 3) := by decide +kernel
theorem dX5_tick_34 : decode cX5_tick 34 = .ok (.aload_n 0, 1) := by decide +kernel
theorem dX5_tick_35 : decode cX5_tick 35 = .ok (.invokevirtual 81, 3) := by decide +kernel
theorem dX5_tick_38 : decode cX5_tick 38 = .ok (.aload_n 0, 1) := by decide +kernel
theorem dX5_tick_39 : decode cX5_tick 39 = .ok (.invokevirtual 84, 3) := by decide +kernel
theorem dX5_tick_42 : decode cX5_tick 42 = .ok (.aload_n 0, 1) := by decide +kernel
theorem dX5_tick_43 : decode cX5_tick 43 = .ok (.invokevirtual 87, 3) := by decide +kernel
theorem dX5_tick_46 : decode cX5_tick 46 = .ok (.iload_n 1, 1) := by decide +kernel
theorem dX5_tick_47 : decode cX5_tick 47 = .ok (.ireturn, 1) := by decide +kernel
theorem dX5_doStepsDue_0 : decode cX5_doStepsDue 0 = .ok (.iconst 0, 1) := by decide +kernel
theorem dX5_doStepsDue_1 : decode cX5_doStepsDue 1 = .ok (.istore_n 1, 1) := by decide +kernel
theorem dX5_doStepsDue_2 : decode cX5_doStepsDue 2 = .ok (.iload_n 1, 1) := by decide +kernel
theorem dX5_doStepsDue_3 : decode cX5_doStepsDue 3 = .ok (.aload_n 0, 1) := by decide +kernel
theorem dX5_doStepsDue_4 : decode cX5_doStepsDue 4 = .ok (.getfield 21, 3) := by decide +kernel
theorem dX5_doStepsDue_7 : decode cX5_doStepsDue 7 = .ok (.invokevirtual 35, 3) := by decide +kernel
theorem dX5_doStepsDue_10 : decode cX5_doStepsDue 10 = .ok (.if_icmp .ge 76, 3) := by decide +kernel
theorem dX5_doStepsDue_13 : decode cX5_doStepsDue 13 = .ok (.aload_n 0, 1) := by decide +kernel
theorem dX5_doStepsDue_14 : decode cX5_doStepsDue 14 = .ok (.getfield 21, 3) := by decide +kernel
theorem dX5_doStepsDue_17 : decode cX5_doStepsDue 17 = .ok (.iload_n 1, 1) := by decide +kernel
theorem dX5_doStepsDue_18 : decode cX5_doStepsDue 18 = .ok (.invokevirtual 41, 3) := by decide +kernel
theorem dX5_doStepsDue_21 : decode cX5_doStepsDue 21 = .ok (.checkcast 90, 3) := by decide +kernel
theorem dX5_doStepsDue_24 : decode cX5_doStepsDue 24 = .ok (.astore_n 2, 1) := by decide +kernel
theorem dX5_doStepsDue_25 : decode cX5_doStepsDue 25 = .ok (.iconst 0, 1) := by decide +kernel
theorem dX5_doStepsDue_26 : decode cX5_doStepsDue 26 = .ok (.istore_n 3, 1) := by decide +kernel
theorem dX5_doStepsDue_27 : decode cX5_doStepsDue 27 = .ok (.iload_n 3, 1) := by decide +kernel
theorem dX5_doStepsDue_28 : decode cX5_doStepsDue 28 = .ok (.aload_n 2, 1) := by decide +kernel
theorem dX5_doStepsDue_29 : decode cX5_doStepsDue 29 = .ok (.getfield 92, 3) := by decide +kernel
theorem dX5_doStepsDue_32 : decode cX5_doStepsDue 32 = .ok (.invokevirtual 35, 3) := by decide +kernel
theorem dX5_doStepsDue_35 : decode cX5_doStepsDue 35 = .ok (.if_icmp .ge 45, 3) := by decide +kernel
theorem dX5_doStepsDue_38 : decode cX5_doStepsDue 38 = .ok (.aload_n 2, 1) := by decide +kernel
theorem dX5_doStepsDue_39 : decode cX5_doStepsDue 39 = .ok (.getfield 92, 3) := by decide +kernel
theorem dX5_doStepsDue_42 : decode cX5_doStepsDue 42 = .ok (.iload_n 3, 1) := by decide +kernel
theorem dX5_doStepsDue_43 : decode cX5_doStepsDue 43 = .ok (.invokevirtual 41, 3) := by decide +kernel
theorem dX5_doStepsDue_46 : decode cX5_doStepsDue 46 = .ok (.checkcast 95, 3) := by decide +kernel
theorem dX5_doStepsDue_49 : decode cX5_doStepsDue 49 = .ok (.astore 4, 2) := by decide +kernel
theorem dX5_doStepsDue_51 : decode cX5_doStepsDue 51 = .ok (.aload_n 2, 1) := by decide +kernel
theorem dX5_doStepsDue_52 : decode cX5_doStepsDue 52 = .ok (.aload 4, 2) := by decide +kernel
theorem dX5_doStepsDue_54 : decode cX5_doStepsDue 54 = .ok (.invokevirtual 97, 3) := by decide +kernel
theorem dX5_doStepsDue_57 : decode cX5_doStepsDue 57 = .ok (.aload_n 0, 1) := by decide +kernel
theorem dX5_doStepsDue_58 : decode cX5_doStepsDue 58 = .ok (.getfield 62, 3) := by decide +kernel
theorem dX5_doStepsDue_61 : decode cX5_doStepsDue 61 = .ok (.if_icmp .ne 13, 3) := by decide +kernel
theorem dX5_doStepsDue_64 : decode cX5_doStepsDue 64 = .ok (.aload_n 0, 1) := by decide +kernel
theorem dX5_doStepsDue_65 : decode cX5_doStepsDue 65 = .ok (.aload 4, 2) := by decide +kernel
theorem dX5_doStepsDue_67 : decode cX5_doStepsDue 67 = .ok (.aload_n 2, 1) := by decide +kernel
theorem dX5_doStepsDue_68 : decode cX5_doStepsDue 68 = .ok (.getfield 101, 3) := by decide +kernel
theorem dX5_doStepsDue_71 : decode cX5_doStepsDue 71 = .ok (.invokevirtual 104, 3) := by decide +kernel
theorem dX5_doStepsDue_74 : decode cX5_doStepsDue 74 = .ok (.iinc 3 1, 3) := by decide +kernel
theorem dX5_doStepsDue_77 : decode cX5_doStepsDue 77 = .ok (.goto (-50), 3) := by decide +kernel
theorem dX5_doStepsDue_80 : decode cX5_doStepsDue 80 = .ok (.iinc 1 1, 3) := by decide +kernel
theorem dX5_doStepsDue_83 : decode cX5_doStepsDue 83 = .ok (.goto (-81), 3) := by decide +kernel
theorem dX5_doStepsDue_86 : decode cX5_doStepsDue 86 = .ok (.return_, 1) := by decide +kernel
theorem dX5_turnDrivesAndValves_0 : decode cX5_turnDrivesAndValves 0 = .ok (.iconst 0, 1) := by decide +kernel
theorem dX5_turnDrivesAndValves_1 : decode cX5_turnDrivesAndValves 1 = .ok (.istore_n 1, 1) := by decide +kernel
theorem dX5_turnDrivesAndValves_2 : decode cX5_turnDrivesAndValves 2 = .ok (.iload_n 1, 1) := by decide +kernel
theorem dX5_turnDrivesAndValves_3 : decode cX5_turnDrivesAndValves 3 = .ok (.aload_n 0, 1) := by decide +kernel
theorem dX5_turnDrivesAndValves_4 : decode cX5_turnDrivesAndValves 4 = .ok (.getfield 12, 3) := by decide +kernel
theorem dX5_turnDrivesAndValves_7 : decode cX5_turnDrivesAndValves 7 = .ok (.invokevirtual 35, 3) := by decide +kernel
theorem dX5_turnDrivesAndValves_10 : decode cX5_turnDrivesAndValves 10 = .ok (.if_icmp .ge 23, 3) := by decide +kernel
theorem dX5_turnDrivesAndValves_13 : decode cX5_turnDrivesAndValves 13 = .ok (.aload_n 0, 1) := by decide +kernel
theorem dX5_turnDrivesAndValves_14 : decode cX5_turnDrivesAndValves 14 = .ok (.getfield 12, 3) := by decide +kernel
theorem dX5_turnDrivesAndValves_17 : decode cX5_turnDrivesAndValves 17 = .ok (.iload_n 1, 1) := by decide +kernel
theorem dX5_turnDrivesAndValves_18 : decode cX5_turnDrivesAndValves 18 = .ok (.invokevirtual 41, 3) := by decide +kernel
theorem dX5_turnDrivesAndValves_21 : decode cX5_turnDrivesAndValves 21 = .ok (.checkcast 45, 3) := by decide +kernel
theorem dX5_turnDrivesAndValves_24 : decode cX5_turnDrivesAndValves 24 = .ok (.invokevirtual 124, 3) := by decide +kernel
theorem dX5_turnDrivesAndValves_27 : decode cX5_turnDrivesAndValves 27 = .ok (.iinc 1 1, 3) := by decide +kernel
theorem dX5_turnDrivesAndValves_30 : decode cX5_turnDrivesAndValves 30 = .ok (.goto (-28), 3) := by decide +kernel
theorem dX5_turnDrivesAndValves_33 : decode cX5_turnDrivesAndValves 33 = .ok (.iconst 0, 1) := by decide +kernel
theorem dX5_turnDrivesAndValves_34 : decode cX5_turnDrivesAndValves 34 = .ok (.istore_n 1, 1) := by decide +kernel
theorem dX5_turnDrivesAndValves_35 : decode cX5_turnDrivesAndValves 35 = .ok (.iload_n 1, 1) := by decide +kernel
theorem dX5_turnDrivesAndValves_36 : decode cX5_turnDrivesAndValves 36 = .ok (.aload_n 0, 1) := by decide +kernel
theorem dX5_turnDrivesAndValves_37 : decode cX5_turnDrivesAndValves 37 = .ok (.getfield 18, 3) := by decide +kernel
theorem dX5_turnDrivesAndValves_40 : decode cX5_turnDrivesAndValves 40 = .ok (.invokevirtual 35, 3) := by decide +kernel
theorem dX5_turnDrivesAndValves_43 : decode cX5_turnDrivesAndValves 43 = .ok (.if_icmp .ge 23, 3) := by decide +kernel
theorem dX5_turnDrivesAndValves_46 : decode cX5_turnDrivesAndValves 46 = .ok (.aload_n 0, 1) := by decide +kernel
theorem dX5_turnDrivesAndValves_47 : decode cX5_turnDrivesAndValves 47 = .ok (.getfield 18, 3) := by decide +kernel
theorem dX5_turnDrivesAndValves_50 : decode cX5_turnDrivesAndValves 50 = .ok (.iload_n 1, 1) := by decide +kernel
theorem dX5_turnDrivesAndValves_51 : decode cX5_turnDrivesAndValves 51 = .ok (.invokevirtual 41, 3) := by decide +kernel
theorem dX5_turnDrivesAndValves_54 : decode cX5_turnDrivesAndValves 54 = .ok (.checkcast 39, 3) := by decide +kernel
theorem dX5_turnDrivesAndValves_57 : decode cX5_turnDrivesAndValves 57 = .ok (.invokevirtual 127, 3) := by decide +kernel
theorem dX5_turnDrivesAndValves_60 : decode cX5_turnDrivesAndValves 60 = .ok (.iinc 1 1, 3) := by decide +kernel
theorem dX5_turnDrivesAndValves_63 : decode cX5_turnDrivesAndValves 63 = .ok (.goto (-28), 3) := by decide +kernel
theorem dX5_turnDrivesAndValves_66 : decode cX5_turnDrivesAndValves 66 = .ok (.return_, 1) := by decide +kernel
theorem dX5_letFall_0 : decode cX5_letFall 0 = .ok (.aload_n 0, 1) := by decide +kernel
theorem dX5_letFall_1 : decode cX5_letFall 1 = .ok (.getfield 27, 3) := by decide +kernel
theorem dX5_letFall_4 : decode cX5_letFall 4 = .ok (.aload_n 0, 1) := by decide +kernel
theorem dX5_letFall_5 : decode cX5_letFall 5 = .ok (.getfield 62, 3) := by decide +kernel
theorem dX5_letFall_8 : decode cX5_letFall 8 = .ok (.invokevirtual 128, 3) := by decide +kernel
theorem dX5_letFall_11 : decode cX5_letFall 11 = .ok (.istore_n 1, 1) := by decide +kernel
theorem dX5_letFall_12 : decode cX5_letFall 12 = .ok (.aload_n 0, 1) := by decide +kernel
theorem dX5_letFall_13 : decode cX5_letFall 13 = .ok (.getfield 27, 3) := by decide +kernel
theorem dX5_letFall_16 : decode cX5_letFall 16 = .ok (.aload_n 0, 1) := by decide +kernel
theorem dX5_letFall_17 : decode cX5_letFall 17 = .ok (.getfield 62, 3) := by decide +kernel
theorem dX5_letFall_20 : decode cX5_letFall 20 = .ok (.invokevirtual 132, 3) := by decide +kernel
theorem dX5_letFall_23 : decode cX5_letFall 23 = .ok (.istore_n 2, 1) := by decide +kernel
theorem dX5_letFall_24 : decode cX5_letFall 24 = .ok (.aload_n 0, 1) := by decide +kernel
theorem dX5_letFall_25 : decode cX5_letFall 25 = .ok (.iload_n 2, 1) := by decide +kernel
theorem dX5_letFall_26 : decode cX5_letFall 26 = .ok (.invokevirtual 135, 3) := by decide +kernel
theorem dX5_letFall_29 : decode cX5_letFall 29 = .ok (.aload_n 0, 1) := by decide +kernel
theorem dX5_letFall_30 : decode cX5_letFall 30 = .ok (.dup, 1) := by decide +kernel
theorem dX5_letFall_31 : decode cX5_letFall 31 = .ok (.getfield 138, 3) := by decide +kernel
theorem dX5_letFall_34 : decode cX5_letFall 34 = .ok (.aload_n 0, 1) := by decide +kernel
theorem dX5_letFall_35 : decode cX5_letFall 35 = .ok (.getfield 27, 3) := by decide +kernel
theorem dX5_letFall_38 : decode cX5_letFall 38 = .ok (.aload_n 0, 1) := by decide +kernel
theorem dX5_letFall_39 : decode cX5_letFall 39 = .ok (.getfield 62, 3) := by decide +kernel
theorem dX5_letFall_42 : decode cX5_letFall 42 = .ok (.invokevirtual 141, 3) := by decide +kernel
theorem dX5_letFall_45 : decode cX5_letFall 45 = .ok (.iadd, 1) := by decide +kernel
theorem dX5_letFall_46 : decode cX5_letFall 46 = .ok (.putfield 138, 3) := by decide +kernel
theorem dX5_letFall_49 : decode cX5_letFall 49 = .ok (.aload_n 0, 1) := by decide +kernel
theorem dX5_letFall_50 : decode cX5_letFall 50 = .ok (.dup, 1) := by decide +kernel
theorem dX5_letFall_51 : decode cX5_letFall 51 = .ok (.getfield 144, 3) := by decide +kernel
theorem dX5_letFall_54 : decode cX5_letFall 54 = .ok (.iload_n 1, 1) := by decide +kernel
theorem dX5_letFall_55 : decode cX5_letFall 55 = .ok (.iload_n 2, 1) := by decide +kernel
theorem dX5_letFall_56 : decode cX5_letFall 56 = .ok (.isub, 1) := by decide +kernel
theorem dX5_letFall_57 : decode cX5_letFall 57 = .ok (.iadd, 1) := by decide +kernel
theorem dX5_letFall_58 : decode cX5_letFall 58 = .ok (.putfield 144, 3) := by decide +kernel
theorem dX5_letFall_61 : decode cX5_letFall 61 = .ok (.aload_n 0, 1) := by decide +kernel
theorem dX5_letFall_62 : decode cX5_letFall 62 = .ok (.getfield 27, 3) := by decide +kernel
theorem dX5_letFall_65 : decode cX5_letFall 65 = .ok (.aload_n 0, 1) := by decide +kernel
theorem dX5_letFall_66 : decode cX5_letFall 66 = .ok (.getfield 62, 3) := by decide +kernel
theorem dX5_letFall_69 : decode cX5_letFall 69 = .ok (.invokevirtual 147, 3) := by decide +kernel
theorem dX5_letFall_72 : decode cX5_letFall 72 = .ok (.iload_n 1, 1) := by decide +kernel
theorem dX5_letFall_73 : decode cX5_letFall 73 = .ok (.ireturn, 1) := by decide +kernel
theorem dX5_throwWater_0 : decode cX5_throwWater 0 = .ok (.iconst 0, 1) := by decide +kernel
theorem dX5_throwWater_1 : decode cX5_throwWater 1 = .ok (.istore_n 1, 1) := by decide +kernel
theorem dX5_throwWater_2 : decode cX5_throwWater 2 = .ok (.iload_n 1, 1) := by decide +kernel
theorem dX5_throwWater_3 : decode cX5_throwWater 3 = .ok (.aload_n 0, 1) := by decide +kernel
theorem dX5_throwWater_4 : decode cX5_throwWater 4 = .ok (.getfield 18, 3) := by decide +kernel
theorem dX5_throwWater_7 : decode cX5_throwWater 7 = .ok (.invokevirtual 35, 3) := by decide +kernel
theorem dX5_throwWater_10 : decode cX5_throwWater 10 = .ok (.if_icmp .ge 90, 3) := by decide +kernel
theorem dX5_throwWater_13 : decode cX5_throwWater 13 = .ok (.aload_n 0, 1) := by decide +kernel
theorem dX5_throwWater_14 : decode cX5_throwWater 14 = .ok (.getfield 18, 3) := by decide +kernel
theorem dX5_throwWater_17 : decode cX5_throwWater 17 = .ok (.iload_n 1, 1) := by decide +kernel
theorem dX5_throwWater_18 : decode cX5_throwWater 18 = .ok (.invokevirtual 41, 3) := by decide +kernel
theorem dX5_throwWater_21 : decode cX5_throwWater 21 = .ok (.checkcast 39, 3) := by decide +kernel
theorem dX5_throwWater_24 : decode cX5_throwWater 24 = .ok (.astore_n 2, 1) := by decide +kernel
theorem dX5_throwWater_25 : decode cX5_throwWater 25 = .ok (.aload_n 0, 1) := by decide +kernel
theorem dX5_throwWater_26 : decode cX5_throwWater 26 = .ok (.aload_n 2, 1) := by decide +kernel
theorem dX5_throwWater_27 : decode cX5_throwWater 27 = .ok (.invokevirtual 58, 3) := by decide +kernel
theorem dX5_throwWater_30 : decode cX5_throwWater 30 = .ok (.istore_n 3, 1) := by decide +kernel
theorem dX5_throwWater_31 : decode cX5_throwWater 31 = .ok (.iload_n 3, 1) := by decide +kernel
theorem dX5_throwWater_32 : decode cX5_throwWater 32 = .ok (.ifCond .le 62, 3) := by decide +kernel
theorem dX5_throwWater_35 : decode cX5_throwWater 35 = .ok (.aload_n 2, 1) := by decide +kernel
theorem dX5_throwWater_36 : decode cX5_throwWater 36 = .ok (.invokevirtual 150, 3) := by decide +kernel
theorem dX5_throwWater_39 : decode cX5_throwWater 39 = .ok (.aload_n 0, 1) := by decide +kernel
theorem dX5_throwWater_40 : decode cX5_throwWater 40 = .ok (.getfield 31, 3) := by decide +kernel
theorem dX5_throwWater_43 : decode cX5_throwWater 43 = .ok (.invokestatic 153, 3) := by decide +kernel
theorem dX5_throwWater_46 : decode cX5_throwWater 46 = .ok (.istore 4, 2) := by decide +kernel
theorem dX5_throwWater_48 : decode cX5_throwWater 48 = .ok (.aload_n 0, 1) := by decide +kernel
theorem dX5_throwWater_49 : decode cX5_throwWater 49 = .ok (.dup, 1) := by decide +kernel
theorem dX5_throwWater_50 : decode cX5_throwWater 50 = .ok (.getfield 31, 3) := by decide +kernel
theorem dX5_throwWater_53 : decode cX5_throwWater 53 = .ok (.iload 4, 2) := by decide +kernel
theorem dX5_throwWater_55 : decode cX5_throwWater 55 = .ok (.isub, 1) := by decide +kernel
theorem dX5_throwWater_56 : decode cX5_throwWater 56 = .ok (.putfield 31, 3) := by decide +kernel
theorem dX5_throwWater_59 : decode cX5_throwWater 59 = .ok (.aload_n 2, 1) := by decide +kernel
theorem dX5_throwWater_60 : decode cX5_throwWater 60 = .ok (.dup, 1) := by decide +kernel
theorem dX5_throwWater_61 : decode cX5_throwWater 61 = .ok (.getfield 156, 3) := by decide +kernel
theorem dX5_throwWater_64 : decode cX5_throwWater 64 = .ok (.iload 4, 2) := by decide +kernel
theorem dX5_throwWater_66 : decode cX5_throwWater 66 = .ok (.iadd, 1) := by decide +kernel
theorem dX5_throwWater_67 : decode cX5_throwWater 67 = .ok (.putfield 156, 3) := by decide +kernel
theorem dX5_throwWater_70 : decode cX5_throwWater 70 = .ok (.aload_n 0, 1) := by decide +kernel
theorem dX5_throwWater_71 : decode cX5_throwWater 71 = .ok (.getfield 27, 3) := by decide +kernel
theorem dX5_throwWater_74 : decode cX5_throwWater 74 = .ok (.aload_n 0, 1) := by decide +kernel
theorem dX5_throwWater_75 : decode cX5_throwWater 75 = .ok (.getfield 62, 3) := by decide +kernel
theorem dX5_throwWater_78 : decode cX5_throwWater 78 = .ok (.iload_n 3, 1) := by decide +kernel
theorem dX5_throwWater_79 : decode cX5_throwWater 79 = .ok (.invokestatic 159, 3) := by decide +kernel
theorem dX5_throwWater_82 : decode cX5_throwWater 82 = .ok (.iadd, 1) := by decide +kernel
theorem dX5_throwWater_83 : decode cX5_throwWater 83 = .ok (.aload_n 0, 1) := by decide +kernel
theorem dX5_throwWater_84 : decode cX5_throwWater 84 = .ok (.aload_n 2, 1) := by decide +kernel
theorem dX5_throwWater_85 : decode cX5_throwWater 85 = .ok (.iload_n 3, 1) := by decide +kernel
theorem dX5_throwWater_86 : decode cX5_throwWater 86 = .ok (.invokevirtual 162, 3) := by decide +kernel
theorem dX5_throwWater_89 : decode cX5_throwWater 89 = .ok (.iload 4, 2) := by decide +kernel
theorem dX5_throwWater_91 : decode cX5_throwWater 91 = .ok (.invokevirtual 166, 3) := by decide +kernel
theorem dX5_throwWater_94 : decode cX5_throwWater 94 = .ok (.iinc 1 1, 3) := by decide +kernel
theorem dX5_throwWater_97 : decode cX5_throwWater 97 = .ok (.goto (-95), 3) := by decide +kernel
theorem dX5_throwWater_100 : decode cX5_throwWater 100 = .ok (.return_, 1) := by decide +kernel
theorem dX5_useEnergy_0 : decode cX5_useEnergy 0 = .ok (.iconst 0, 1) := by decide +kernel
theorem dX5_useEnergy_1 : decode cX5_useEnergy 1 = .ok (.istore_n 1, 1) := by decide +kernel
theorem dX5_useEnergy_2 : decode cX5_useEnergy 2 = .ok (.iload_n 1, 1) := by decide +kernel
theorem dX5_useEnergy_3 : decode cX5_useEnergy 3 = .ok (.aload_n 0, 1) := by decide +kernel
theorem dX5_useEnergy_4 : decode cX5_useEnergy 4 = .ok (.getfield 12, 3) := by decide +kernel
theorem dX5_useEnergy_7 : decode cX5_useEnergy 7 = .ok (.invokevirtual 35, 3) := by decide +kernel
theorem dX5_useEnergy_10 : decode cX5_useEnergy 10 = .ok (.if_icmp .ge 36, 3) := by decide +kernel
theorem dX5_useEnergy_13 : decode cX5_useEnergy 13 = .ok (.aload_n 0, 1) := by decide +kernel
theorem dX5_useEnergy_14 : decode cX5_useEnergy 14 = .ok (.getfield 12, 3) := by decide +kernel
theorem dX5_useEnergy_17 : decode cX5_useEnergy 17 = .ok (.iload_n 1, 1) := by decide +kernel
theorem dX5_useEnergy_18 : decode cX5_useEnergy 18 = .ok (.invokevirtual 41, 3) := by decide +kernel
theorem dX5_useEnergy_21 : decode cX5_useEnergy 21 = .ok (.checkcast 45, 3) := by decide +kernel
theorem dX5_useEnergy_24 : decode cX5_useEnergy 24 = .ok (.getfield 170, 3) := by decide +kernel
theorem dX5_useEnergy_27 : decode cX5_useEnergy 27 = .ok (.istore_n 2, 1) := by decide +kernel
theorem dX5_useEnergy_28 : decode cX5_useEnergy 28 = .ok (.aload_n 0, 1) := by decide +kernel
theorem dX5_useEnergy_29 : decode cX5_useEnergy 29 = .ok (.dup, 1) := by decide +kernel
theorem dX5_useEnergy_30 : decode cX5_useEnergy 30 = .ok (.getfield 173, 3) := by decide +kernel
theorem dX5_useEnergy_33 : decode cX5_useEnergy 33 = .ok (.iload_n 2, 1) := by decide +kernel
theorem dX5_useEnergy_34 : decode cX5_useEnergy 34 = .ok (.iload_n 2, 1) := by decide +kernel
theorem dX5_useEnergy_35 : decode cX5_useEnergy 35 = .ok (.imul, 1) := by decide +kernel
theorem dX5_useEnergy_36 : decode cX5_useEnergy 36 = .ok (.iadd, 1) := by decide +kernel
theorem dX5_useEnergy_37 : decode cX5_useEnergy 37 = .ok (.putfield 173, 3) := by decide +kernel
theorem dX5_useEnergy_40 : decode cX5_useEnergy 40 = .ok (.iinc 1 1, 3) := by decide +kernel
theorem dX5_useEnergy_43 : decode cX5_useEnergy 43 = .ok (.goto (-41), 3) := by decide +kernel
theorem dX5_useEnergy_46 : decode cX5_useEnergy 46 = .ok (.aload_n 0, 1) := by decide +kernel
theorem dX5_useEnergy_47 : decode cX5_useEnergy 47 = .ok (.dup, 1) := by decide +kernel
theorem dX5_useEnergy_48 : decode cX5_useEnergy 48 = .ok (.getfield 173, 3) := by decide +kernel
theorem dX5_useEnergy_51 : decode cX5_useEnergy 51 = .ok (.aload_n 0, 1) := by decide +kernel
theorem dX5_useEnergy_52 : decode cX5_useEnergy 52 = .ok (.invokevirtual 176, 3) := by decide +kernel
theorem dX5_useEnergy_55 : decode cX5_useEnergy 55 = .ok (.invokestatic 179, 3) := by decide +kernel
theorem dX5_useEnergy_58 : decode cX5_useEnergy 58 = .ok (.iadd, 1) := by decide +kernel
theorem dX5_useEnergy_59 : decode cX5_useEnergy 59 = .ok (.putfield 173, 3) := by decide +kernel
theorem dX5_useEnergy_62 : decode cX5_useEnergy 62 = .ok (.return_, 1) := by decide +kernel
theorem dX5_tripPumpsRunningDry_0 : decode cX5_tripPumpsRunningDry 0 = .ok (.aload_n 0, 1) := by decide +kernel
theorem dX5_tripPumpsRunningDry_1 : decode cX5_tripPumpsRunningDry 1 = .ok (.getfield 31, 3) := by decide +kernel
theorem dX5_tripPumpsRunningDry_4 : decode cX5_tripPumpsRunningDry 4 = .ok (.sipush 300, 3) := by decide +kernel
theorem dX5_tripPumpsRunningDry_7 : decode cX5_tripPumpsRunningDry 7 = .ok (.if_icmp .lt 4, 3) := by decide +kernel
theorem dX5_tripPumpsRunningDry_10 : decode cX5_tripPumpsRunningDry 10 = .ok (.return_, 1) := by decide +kernel
theorem dX5_tripPumpsRunningDry_11 : decode cX5_tripPumpsRunningDry 11 = .ok (.iconst 0, 1) := by decide +kernel
theorem dX5_tripPumpsRunningDry_12 : decode cX5_tripPumpsRunningDry 12 = .ok (.istore_n 1, 1) := by decide +kernel
theorem dX5_tripPumpsRunningDry_13 : decode cX5_tripPumpsRunningDry 13 = .ok (.iload_n 1, 1) := by decide +kernel
theorem dX5_tripPumpsRunningDry_14 : decode cX5_tripPumpsRunningDry 14 = .ok (.aload_n 0, 1) := by decide +kernel
theorem dX5_tripPumpsRunningDry_15 : decode cX5_tripPumpsRunningDry 15 = .ok (.getfield 12, 3) := by decide +kernel
theorem dX5_tripPumpsRunningDry_18 : decode cX5_tripPumpsRunningDry 18 = .ok (.invokevirtual 35, 3) := by decide +kernel
theorem dX5_tripPumpsRunningDry_21 : decode cX5_tripPumpsRunningDry 21 = .ok (.if_icmp .ge 40, 3) := by decide +kernel
theorem dX5_tripPumpsRunningDry_24 : decode cX5_tripPumpsRunningDry 24 = .ok (.aload_n 0, 1) := by decide +kernel
theorem dX5_tripPumpsRunningDry_25 : decode cX5_tripPumpsRunningDry 25 = .ok (.getfield 12, 3) := by decide +kernel
theorem dX5_tripPumpsRunningDry_28 : decode cX5_tripPumpsRunningDry 28 = .ok (.iload_n 1, 1) := by decide +kernel
theorem dX5_tripPumpsRunningDry_29 : decode cX5_tripPumpsRunningDry 29 = .ok (.invokevirtual 41, 3) := by decide +kernel
theorem dX5_tripPumpsRunningDry_32 : decode cX5_tripPumpsRunningDry 32 = .ok (.checkcast 45, 3) := by decide +kernel
theorem dX5_tripPumpsRunningDry_35 : decode cX5_tripPumpsRunningDry 35 = .ok (.getfield 170, 3) := by decide +kernel
theorem dX5_tripPumpsRunningDry_38 : decode cX5_tripPumpsRunningDry 38 = .ok (.ifCond .le 17, 3) := by decide +kernel
theorem dX5_tripPumpsRunningDry_41 : decode cX5_tripPumpsRunningDry 41 = .ok (.aload_n 0, 1) := by decide +kernel
theorem dX5_tripPumpsRunningDry_42 : decode cX5_tripPumpsRunningDry 42 = .ok (.getfield 12, 3) := by decide +kernel
theorem dX5_tripPumpsRunningDry_45 : decode cX5_tripPumpsRunningDry 45 = .ok (.iload_n 1, 1) := by decide +kernel
theorem dX5_tripPumpsRunningDry_46 : decode cX5_tripPumpsRunningDry 46 = .ok (.invokevirtual 41, 3) := by decide +kernel
theorem dX5_tripPumpsRunningDry_49 : decode cX5_tripPumpsRunningDry 49 = .ok (.checkcast 45, 3) := by decide +kernel
theorem dX5_tripPumpsRunningDry_52 : decode cX5_tripPumpsRunningDry 52 = .ok (.invokevirtual 184, 3) := by decide +kernel
theorem dX5_tripPumpsRunningDry_55 : decode cX5_tripPumpsRunningDry 55 = .ok (.iinc 1 1, 3) := by decide +kernel
theorem dX5_tripPumpsRunningDry_58 : decode cX5_tripPumpsRunningDry 58 = .ok (.goto (-45), 3) := by decide +kernel
theorem dX5_tripPumpsRunningDry_61 : decode cX5_tripPumpsRunningDry 61 = .ok (.return_, 1) := by decide +kernel
theorem dX5_shortLamps_0 : decode cX5_shortLamps 0 = .ok (.iconst 0, 1) := by decide +kernel
theorem dX5_shortLamps_1 : decode cX5_shortLamps 1 = .ok (.istore_n 1, 1) := by decide +kernel
theorem dX5_shortLamps_2 : decode cX5_shortLamps 2 = .ok (.iconst 0, 1) := by decide +kernel
theorem dX5_shortLamps_3 : decode cX5_shortLamps 3 = .ok (.istore_n 2, 1) := by decide +kernel
theorem dX5_shortLamps_4 : decode cX5_shortLamps 4 = .ok (.iload_n 2, 1) := by decide +kernel
theorem dX5_shortLamps_5 : decode cX5_shortLamps 5 = .ok (.aload_n 0, 1) := by decide +kernel
theorem dX5_shortLamps_6 : decode cX5_shortLamps 6 = .ok (.getfield 18, 3) := by decide +kernel
theorem dX5_shortLamps_9 : decode cX5_shortLamps 9 = .ok (.invokevirtual 35, 3) := by decide +kernel
theorem dX5_shortLamps_12 : decode cX5_shortLamps 12 = .ok (.if_icmp .ge 29, 3) := by decide +kernel
theorem dX5_shortLamps_15 : decode cX5_shortLamps 15 = .ok (.aload_n 0, 1) := by decide +kernel
theorem dX5_shortLamps_16 : decode cX5_shortLamps 16 = .ok (.getfield 18, 3) := by decide +kernel
theorem dX5_shortLamps_19 : decode cX5_shortLamps 19 = .ok (.iload_n 2, 1) := by decide +kernel
theorem dX5_shortLamps_20 : decode cX5_shortLamps 20 = .ok (.invokevirtual 41, 3) := by decide +kernel
theorem dX5_shortLamps_23 : decode cX5_shortLamps 23 = .ok (.checkcast 39, 3) := by decide +kernel
theorem dX5_shortLamps_26 : decode cX5_shortLamps 26 = .ok (.invokevirtual 187, 3) := by decide +kernel
theorem dX5_shortLamps_29 : decode cX5_shortLamps 29 = .ok (.ifCond .eq 6, 3) := by decide +kernel
theorem dX5_shortLamps_32 : decode cX5_shortLamps 32 = .ok (.iinc 1 1, 3) := by decide +kernel
theorem dX5_shortLamps_35 : decode cX5_shortLamps 35 = .ok (.iinc 2 1, 3) := by decide +kernel
theorem dX5_shortLamps_38 : decode cX5_shortLamps 38 = .ok (.goto (-34), 3) := by decide +kernel
theorem dX5_shortLamps_41 : decode cX5_shortLamps 41 = .ok (.iload_n 1, 1) := by decide +kernel
theorem dX5_shortLamps_42 : decode cX5_shortLamps 42 = .ok (.ifCond .ne 4, 3) := by decide +kernel
theorem dX5_shortLamps_45 : decode cX5_shortLamps 45 = .ok (.return_, 1) := by decide +kernel
theorem dX5_shortLamps_46 : decode cX5_shortLamps 46 = .ok (.aload_n 0, 1) := by decide +kernel
theorem dX5_shortLamps_47 : decode cX5_shortLamps 47 = .ok (.dup, 1) := by decide +kernel
theorem dX5_shortLamps_48 : decode cX5_shortLamps 48 = .ok (.getfield 191, 3) := by decide +kernel
theorem dX5_shortLamps_51 : decode cX5_shortLamps 51 = .ok (.iload_n 1, 1) := by decide +kernel
theorem dX5_shortLamps_52 : decode cX5_shortLamps 52 = .ok (.iadd, 1) := by decide +kernel
theorem dX5_shortLamps_53 : decode cX5_shortLamps 53 = .ok (.putfield 191, 3) := by decide +kernel
theorem dX5_shortLamps_56 : decode cX5_shortLamps 56 = .ok (.aload_n 0, 1) := by decide +kernel
theorem dX5_shortLamps_57 : decode cX5_shortLamps 57 = .ok (.getfield 65, 3) := by decide +kernel
theorem dX5_shortLamps_60 : decode cX5_shortLamps 60 = .ok (.ifCond .eq 13, 3) := by decide +kernel
theorem dX5_shortLamps_63 : decode cX5_shortLamps 63 = .ok (.aload_n 0, 1) := by decide +kernel
theorem dX5_shortLamps_64 : decode cX5_shortLamps 64 = .ok (.dup, 1) := by decide +kernel
theorem dX5_shortLamps_65 : decode cX5_shortLamps 65 = .ok (.getfield 194, 3) := by decide +kernel
theorem dX5_shortLamps_68 : decode cX5_shortLamps 68 = .ok (.iconst 1, 1) := by decide +kernel
theorem dX5_shortLamps_69 : decode cX5_shortLamps 69 = .ok (.iadd, 1) := by decide +kernel
theorem dX5_shortLamps_70 : decode cX5_shortLamps 70 = .ok (.putfield 194, 3) := by decide +kernel
theorem dX5_shortLamps_73 : decode cX5_shortLamps 73 = .ok (.aload_n 0, 1) := by decide +kernel
theorem dX5_shortLamps_74 : decode cX5_shortLamps 74 = .ok (.invokevirtual 197, 3) := by decide +kernel
theorem dX5_shortLamps_77 : decode cX5_shortLamps 77 = .ok (.return_, 1) := by decide +kernel
theorem dX5_lampsOff_0 : decode cX5_lampsOff 0 = .ok (.iconst 0, 1) := by decide +kernel
theorem dX5_lampsOff_1 : decode cX5_lampsOff 1 = .ok (.istore_n 1, 1) := by decide +kernel
theorem dX5_lampsOff_2 : decode cX5_lampsOff 2 = .ok (.iload_n 1, 1) := by decide +kernel
theorem dX5_lampsOff_3 : decode cX5_lampsOff 3 = .ok (.aload_n 0, 1) := by decide +kernel
theorem dX5_lampsOff_4 : decode cX5_lampsOff 4 = .ok (.getfield 18, 3) := by decide +kernel
theorem dX5_lampsOff_7 : decode cX5_lampsOff 7 = .ok (.invokevirtual 35, 3) := by decide +kernel
theorem dX5_lampsOff_10 : decode cX5_lampsOff 10 = .ok (.if_icmp .ge 24, 3) := by decide +kernel
theorem dX5_lampsOff_13 : decode cX5_lampsOff 13 = .ok (.aload_n 0, 1) := by decide +kernel
theorem dX5_lampsOff_14 : decode cX5_lampsOff 14 = .ok (.getfield 18, 3) := by decide +kernel
theorem dX5_lampsOff_17 : decode cX5_lampsOff 17 = .ok (.iload_n 1, 1) := by decide +kernel
theorem dX5_lampsOff_18 : decode cX5_lampsOff 18 = .ok (.invokevirtual 41, 3) := by decide +kernel
theorem dX5_lampsOff_21 : decode cX5_lampsOff 21 = .ok (.checkcast 39, 3) := by decide +kernel
theorem dX5_lampsOff_24 : decode cX5_lampsOff 24 = .ok (.iconst 0, 1) := by decide +kernel
theorem dX5_lampsOff_25 : decode cX5_lampsOff 25 = .ok (.putfield 200, 3) := by decide +kernel
theorem dX5_lampsOff_28 : decode cX5_lampsOff 28 = .ok (.iinc 1 1, 3) := by decide +kernel
theorem dX5_lampsOff_31 : decode cX5_lampsOff 31 = .ok (.goto (-29), 3) := by decide +kernel
theorem dX5_lampsOff_34 : decode cX5_lampsOff 34 = .ok (.return_, 1) := by decide +kernel
theorem dX5_shutAll_0 : decode cX5_shutAll 0 = .ok (.iconst 0, 1) := by decide +kernel
theorem dX5_shutAll_1 : decode cX5_shutAll 1 = .ok (.istore_n 1, 1) := by decide +kernel
theorem dX5_shutAll_2 : decode cX5_shutAll 2 = .ok (.iload_n 1, 1) := by decide +kernel
theorem dX5_shutAll_3 : decode cX5_shutAll 3 = .ok (.aload_n 0, 1) := by decide +kernel
theorem dX5_shutAll_4 : decode cX5_shutAll 4 = .ok (.getfield 12, 3) := by decide +kernel
theorem dX5_shutAll_7 : decode cX5_shutAll 7 = .ok (.invokevirtual 35, 3) := by decide +kernel
theorem dX5_shutAll_10 : decode cX5_shutAll 10 = .ok (.if_icmp .ge 24, 3) := by decide +kernel
theorem dX5_shutAll_13 : decode cX5_shutAll 13 = .ok (.aload_n 0, 1) := by decide +kernel
theorem dX5_shutAll_14 : decode cX5_shutAll 14 = .ok (.getfield 12, 3) := by decide +kernel
theorem dX5_shutAll_17 : decode cX5_shutAll 17 = .ok (.iload_n 1, 1) := by decide +kernel
theorem dX5_shutAll_18 : decode cX5_shutAll 18 = .ok (.invokevirtual 41, 3) := by decide +kernel
theorem dX5_shutAll_21 : decode cX5_shutAll 21 = .ok (.checkcast 45, 3) := by decide +kernel
theorem dX5_shutAll_24 : decode cX5_shutAll 24 = .ok (.iconst 0, 1) := by decide +kernel
theorem dX5_shutAll_25 : decode cX5_shutAll 25 = .ok (.invokevirtual 54, 3) := by decide +kernel
theorem dX5_shutAll_28 : decode cX5_shutAll 28 = .ok (.iinc 1 1, 3) := by decide +kernel
theorem dX5_shutAll_31 : decode cX5_shutAll 31 = .ok (.goto (-29), 3) := by decide +kernel
theorem dX5_shutAll_34 : decode cX5_shutAll 34 = .ok (.iconst 0, 1) := by decide +kernel
theorem dX5_shutAll_35 : decode cX5_shutAll 35 = .ok (.istore_n 1, 1) := by decide +kernel
theorem dX5_shutAll_36 : decode cX5_shutAll 36 = .ok (.iload_n 1, 1) := by decide +kernel
theorem dX5_shutAll_37 : decode cX5_shutAll 37 = .ok (.aload_n 0, 1) := by decide +kernel
theorem dX5_shutAll_38 : decode cX5_shutAll 38 = .ok (.getfield 18, 3) := by decide +kernel
theorem dX5_shutAll_41 : decode cX5_shutAll 41 = .ok (.invokevirtual 35, 3) := by decide +kernel
theorem dX5_shutAll_44 : decode cX5_shutAll 44 = .ok (.if_icmp .ge 24, 3) := by decide +kernel
theorem dX5_shutAll_47 : decode cX5_shutAll 47 = .ok (.aload_n 0, 1) := by decide +kernel
theorem dX5_shutAll_48 : decode cX5_shutAll 48 = .ok (.getfield 18, 3) := by decide +kernel
theorem dX5_shutAll_51 : decode cX5_shutAll 51 = .ok (.iload_n 1, 1) := by decide +kernel
theorem dX5_shutAll_52 : decode cX5_shutAll 52 = .ok (.invokevirtual 41, 3) := by decide +kernel
theorem dX5_shutAll_55 : decode cX5_shutAll 55 = .ok (.checkcast 39, 3) := by decide +kernel
theorem dX5_shutAll_58 : decode cX5_shutAll 58 = .ok (.iconst 0, 1) := by decide +kernel
theorem dX5_shutAll_59 : decode cX5_shutAll 59 = .ok (.putfield 203, 3) := by decide +kernel
theorem dX5_shutAll_62 : decode cX5_shutAll 62 = .ok (.iinc 1 1, 3) := by decide +kernel
theorem dX5_shutAll_65 : decode cX5_shutAll 65 = .ok (.goto (-29), 3) := by decide +kernel
theorem dX5_shutAll_68 : decode cX5_shutAll 68 = .ok (.aload_n 0, 1) := by decide +kernel
theorem dX5_shutAll_69 : decode cX5_shutAll 69 = .ok (.invokevirtual 197, 3) := by decide +kernel
theorem dX5_shutAll_72 : decode cX5_shutAll 72 = .ok (.return_, 1) := by decide +kernel
theorem dX5_pour_0 : decode cX5_pour 0 = .ok (.aload_n 0, 1) := by decide +kernel
theorem dX5_pour_1 : decode cX5_pour 1 = .ok (.dup, 1) := by decide +kernel
theorem dX5_pour_2 : decode cX5_pour 2 = .ok (.getfield 31, 3) := by decide +kernel
theorem dX5_pour_5 : decode cX5_pour 5 = .ok (.iload_n 1, 1) := by decide +kernel
theorem dX5_pour_6 : decode cX5_pour 6 = .ok (.iadd, 1) := by decide +kernel
theorem dX5_pour_7 : decode cX5_pour 7 = .ok (.putfield 31, 3) := by decide +kernel
theorem dX5_pour_10 : decode cX5_pour 10 = .ok (.aload_n 0, 1) := by decide +kernel
theorem dX5_pour_11 : decode cX5_pour 11 = .ok (.getfield 31, 3) := by decide +kernel
theorem dX5_pour_14 : decode cX5_pour 14 = .ok (.sipush 9000, 3) := by decide +kernel
theorem dX5_pour_17 : decode cX5_pour 17 = .ok (.if_icmp .le 27, 3) := by decide +kernel
theorem dX5_pour_20 : decode cX5_pour 20 = .ok (.aload_n 0, 1) := by decide +kernel
theorem dX5_pour_21 : decode cX5_pour 21 = .ok (.dup, 1) := by decide +kernel
theorem dX5_pour_22 : decode cX5_pour 22 = .ok (.getfield 206, 3) := by decide +kernel
theorem dX5_pour_25 : decode cX5_pour 25 = .ok (.aload_n 0, 1) := by decide +kernel
theorem dX5_pour_26 : decode cX5_pour 26 = .ok (.getfield 31, 3) := by decide +kernel
theorem dX5_pour_29 : decode cX5_pour 29 = .ok (.sipush 9000, 3) := by decide +kernel
theorem dX5_pour_32 : decode cX5_pour 32 = .ok (.isub, 1) := by decide +kernel
theorem dX5_pour_33 : decode cX5_pour 33 = .ok (.iadd, 1) := by decide +kernel
theorem dX5_pour_34 : decode cX5_pour 34 = .ok (.putfield 206, 3) := by decide +kernel
theorem dX5_pour_37 : decode cX5_pour 37 = .ok (.aload_n 0, 1) := by decide +kernel
theorem dX5_pour_38 : decode cX5_pour 38 = .ok (.sipush 9000, 3) := by decide +kernel
theorem dX5_pour_41 : decode cX5_pour 41 = .ok (.putfield 31, 3) := by decide +kernel
theorem dX5_pour_44 : decode cX5_pour 44 = .ok (.return_, 1) := by decide +kernel
theorem dX5_lampsOn_0 : decode cX5_lampsOn 0 = .ok (.iconst 0, 1) := by decide +kernel
theorem dX5_lampsOn_1 : decode cX5_lampsOn 1 = .ok (.istore_n 1, 1) := by decide +kernel
theorem dX5_lampsOn_2 : decode cX5_lampsOn 2 = .ok (.iconst 0, 1) := by decide +kernel
theorem dX5_lampsOn_3 : decode cX5_lampsOn 3 = .ok (.istore_n 2, 1) := by decide +kernel
theorem dX5_lampsOn_4 : decode cX5_lampsOn 4 = .ok (.iload_n 2, 1) := by decide +kernel
theorem dX5_lampsOn_5 : decode cX5_lampsOn 5 = .ok (.aload_n 0, 1) := by decide +kernel
theorem dX5_lampsOn_6 : decode cX5_lampsOn 6 = .ok (.getfield 18, 3) := by decide +kernel
theorem dX5_lampsOn_9 : decode cX5_lampsOn 9 = .ok (.invokevirtual 35, 3) := by decide +kernel
theorem dX5_lampsOn_12 : decode cX5_lampsOn 12 = .ok (.if_icmp .ge 32, 3) := by decide +kernel
theorem dX5_lampsOn_15 : decode cX5_lampsOn 15 = .ok (.aload_n 0, 1) := by decide +kernel
theorem dX5_lampsOn_16 : decode cX5_lampsOn 16 = .ok (.getfield 18, 3) := by decide +kernel
theorem dX5_lampsOn_19 : decode cX5_lampsOn 19 = .ok (.iload_n 2, 1) := by decide +kernel
theorem dX5_lampsOn_20 : decode cX5_lampsOn 20 = .ok (.invokevirtual 41, 3) := by decide +kernel
theorem dX5_lampsOn_23 : decode cX5_lampsOn 23 = .ok (.checkcast 39, 3) := by decide +kernel
theorem dX5_lampsOn_26 : decode cX5_lampsOn 26 = .ok (.getfield 200, 3) := by decide +kernel
theorem dX5_lampsOn_29 : decode cX5_lampsOn 29 = .ok (.ifCond .eq 9, 3) := by decide +kernel
theorem dX5_lampsOn_32 : decode cX5_lampsOn 32 = .ok (.iload_n 1, 1) := by decide +kernel
theorem dX5_lampsOn_33 : decode cX5_lampsOn 33 = .ok (.iconst 1, 1) := by decide +kernel
theorem dX5_lampsOn_34 : decode cX5_lampsOn 34 = .ok (.iload_n 2, 1) := by decide +kernel
theorem dX5_lampsOn_35 : decode cX5_lampsOn 35 = .ok (.ishl, 1) := by decide +kernel
theorem dX5_lampsOn_36 : decode cX5_lampsOn 36 = .ok (.ior, 1) := by decide +kernel
theorem dX5_lampsOn_37 : decode cX5_lampsOn 37 = .ok (.istore_n 1, 1) := by decide +kernel
theorem dX5_lampsOn_38 : decode cX5_lampsOn 38 = .ok (.iinc 2 1, 3) := by decide +kernel
theorem dX5_lampsOn_41 : decode cX5_lampsOn 41 = .ok (.goto (-37), 3) := by decide +kernel
theorem dX5_lampsOn_44 : decode cX5_lampsOn 44 = .ok (.iload_n 1, 1) := by decide +kernel
theorem dX5_lampsOn_45 : decode cX5_lampsOn 45 = .ok (.ireturn, 1) := by decide +kernel
theorem dX5_greatestHeight_0 : decode cX5_greatestHeight 0 = .ok (.iconst 0, 1) := by decide +kernel
theorem dX5_greatestHeight_1 : decode cX5_greatestHeight 1 = .ok (.istore_n 1, 1) := by decide +kernel
theorem dX5_greatestHeight_2 : decode cX5_greatestHeight 2 = .ok (.iconst 0, 1) := by decide +kernel
theorem dX5_greatestHeight_3 : decode cX5_greatestHeight 3 = .ok (.istore_n 2, 1) := by decide +kernel
theorem dX5_greatestHeight_4 : decode cX5_greatestHeight 4 = .ok (.iload_n 2, 1) := by decide +kernel
theorem dX5_greatestHeight_5 : decode cX5_greatestHeight 5 = .ok (.aload_n 0, 1) := by decide +kernel
theorem dX5_greatestHeight_6 : decode cX5_greatestHeight 6 = .ok (.getfield 18, 3) := by decide +kernel
theorem dX5_greatestHeight_9 : decode cX5_greatestHeight 9 = .ok (.invokevirtual 35, 3) := by decide +kernel
theorem dX5_greatestHeight_12 : decode cX5_greatestHeight 12 = .ok (.if_icmp .ge 29, 3) := by decide +kernel
theorem dX5_greatestHeight_15 : decode cX5_greatestHeight 15 = .ok (.iload_n 1, 1) := by decide +kernel
theorem dX5_greatestHeight_16 : decode cX5_greatestHeight 16 = .ok (.aload_n 0, 1) := by decide +kernel
theorem dX5_greatestHeight_17 : decode cX5_greatestHeight 17 = .ok (.aload_n 0, 1) := by decide +kernel
theorem dX5_greatestHeight_18 : decode cX5_greatestHeight 18 = .ok (.getfield 18, 3) := by decide +kernel
theorem dX5_greatestHeight_21 : decode cX5_greatestHeight 21 = .ok (.iload_n 2, 1) := by decide +kernel
theorem dX5_greatestHeight_22 : decode cX5_greatestHeight 22 = .ok (.invokevirtual 41, 3) := by decide +kernel
theorem dX5_greatestHeight_25 : decode cX5_greatestHeight 25 = .ok (.checkcast 39, 3) := by decide +kernel
theorem dX5_greatestHeight_28 : decode cX5_greatestHeight 28 = .ok (.invokevirtual 58, 3) := by decide +kernel
theorem dX5_greatestHeight_31 : decode cX5_greatestHeight 31 = .ok (.invokestatic 233, 3) := by decide +kernel
theorem dX5_greatestHeight_34 : decode cX5_greatestHeight 34 = .ok (.istore_n 1, 1) := by decide +kernel
theorem dX5_greatestHeight_35 : decode cX5_greatestHeight 35 = .ok (.iinc 2 1, 3) := by decide +kernel
theorem dX5_greatestHeight_38 : decode cX5_greatestHeight 38 = .ok (.goto (-34), 3) := by decide +kernel
theorem dX5_greatestHeight_41 : decode cX5_greatestHeight 41 = .ok (.iload_n 1, 1) := by decide +kernel
theorem dX5_greatestHeight_42 : decode cX5_greatestHeight 42 = .ok (.ireturn, 1) := by decide +kernel
theorem dX5_becomeLike_0 : decode cX5_becomeLike 0 = .ok (.iconst 0, 1) := by decide +kernel
theorem dX5_becomeLike_1 : decode cX5_becomeLike 1 = .ok (.istore_n 2, 1) := by decide +kernel
theorem dX5_becomeLike_2 : decode cX5_becomeLike 2 = .ok (.iload_n 2, 1) := by decide +kernel
theorem dX5_becomeLike_3 : decode cX5_becomeLike 3 = .ok (.aload_n 0, 1) := by decide +kernel
theorem dX5_becomeLike_4 : decode cX5_becomeLike 4 = .ok (.getfield 12, 3) := by decide +kernel
theorem dX5_becomeLike_7 : decode cX5_becomeLike 7 = .ok (.invokevirtual 35, 3) := by decide +kernel
theorem dX5_becomeLike_10 : decode cX5_becomeLike 10 = .ok (.if_icmp .ge 45, 3) := by decide +kernel
theorem dX5_becomeLike_13 : decode cX5_becomeLike 13 = .ok (.iload_n 2, 1) := by decide +kernel
theorem dX5_becomeLike_14 : decode cX5_becomeLike 14 = .ok (.aload_n 1, 1) := by decide +kernel
theorem dX5_becomeLike_15 : decode cX5_becomeLike 15 = .ok (.getfield 12, 3) := by decide +kernel
theorem dX5_becomeLike_18 : decode cX5_becomeLike 18 = .ok (.invokevirtual 35, 3) := by decide +kernel
theorem dX5_becomeLike_21 : decode cX5_becomeLike 21 = .ok (.if_icmp .ge 34, 3) := by decide +kernel
theorem dX5_becomeLike_24 : decode cX5_becomeLike 24 = .ok (.aload_n 0, 1) := by decide +kernel
theorem dX5_becomeLike_25 : decode cX5_becomeLike 25 = .ok (.getfield 12, 3) := by decide +kernel
theorem dX5_becomeLike_28 : decode cX5_becomeLike 28 = .ok (.iload_n 2, 1) := by decide +kernel
theorem dX5_becomeLike_29 : decode cX5_becomeLike 29 = .ok (.invokevirtual 41, 3) := by decide +kernel
theorem dX5_becomeLike_32 : decode cX5_becomeLike 32 = .ok (.checkcast 45, 3) := by decide +kernel
theorem dX5_becomeLike_35 : decode cX5_becomeLike 35 = .ok (.aload_n 1, 1) := by decide +kernel
theorem dX5_becomeLike_36 : decode cX5_becomeLike 36 = .ok (.getfield 12, 3) := by decide +kernel
theorem dX5_becomeLike_39 : decode cX5_becomeLike 39 = .ok (.iload_n 2, 1) := by decide +kernel
theorem dX5_becomeLike_40 : decode cX5_becomeLike 40 = .ok (.invokevirtual 41, 3) := by decide +kernel
theorem dX5_becomeLike_43 : decode cX5_becomeLike 43 = .ok (.checkcast 45, 3) := by decide +kernel
theorem dX5_becomeLike_46 : decode cX5_becomeLike 46 = .ok (.invokevirtual 254, 3) := by decide +kernel
theorem dX5_becomeLike_49 : decode cX5_becomeLike 49 = .ok (.iinc 2 1, 3) := by decide +kernel
theorem dX5_becomeLike_52 : decode cX5_becomeLike 52 = .ok (.goto (-50), 3) := by decide +kernel
theorem dX5_becomeLike_55 : decode cX5_becomeLike 55 = .ok (.iconst 0, 1) := by decide +kernel
theorem dX5_becomeLike_56 : decode cX5_becomeLike 56 = .ok (.istore_n 2, 1) := by decide +kernel
theorem dX5_becomeLike_57 : decode cX5_becomeLike 57 = .ok (.iload_n 2, 1) := by decide +kernel
theorem dX5_becomeLike_58 : decode cX5_becomeLike 58 = .ok (.aload_n 0, 1) := by decide +kernel
theorem dX5_becomeLike_59 : decode cX5_becomeLike 59 = .ok (.getfield 18, 3) := by decide +kernel
theorem dX5_becomeLike_62 : decode cX5_becomeLike 62 = .ok (.invokevirtual 35, 3) := by decide +kernel
theorem dX5_becomeLike_65 : decode cX5_becomeLike 65 = .ok (.if_icmp .ge 45, 3) := by decide +kernel
theorem dX5_becomeLike_68 : decode cX5_becomeLike 68 = .ok (.iload_n 2, 1) := by decide +kernel
theorem dX5_becomeLike_69 : decode cX5_becomeLike 69 = .ok (.aload_n 1, 1) := by decide +kernel
theorem dX5_becomeLike_70 : decode cX5_becomeLike 70 = .ok (.getfield 18, 3) := by decide +kernel
theorem dX5_becomeLike_73 : decode cX5_becomeLike 73 = .ok (.invokevirtual 35, 3) := by decide +kernel
theorem dX5_becomeLike_76 : decode cX5_becomeLike 76 = .ok (.if_icmp .ge 34, 3) := by decide +kernel
theorem dX5_becomeLike_79 : decode cX5_becomeLike 79 = .ok (.aload_n 0, 1) := by decide +kernel
theorem dX5_becomeLike_80 : decode cX5_becomeLike 80 = .ok (.getfield 18, 3) := by decide +kernel
theorem dX5_becomeLike_83 : decode cX5_becomeLike 83 = .ok (.iload_n 2, 1) := by decide +kernel
theorem dX5_becomeLike_84 : decode cX5_becomeLike 84 = .ok (.invokevirtual 41, 3) := by decide +kernel
theorem dX5_becomeLike_87 : decode cX5_becomeLike 87 = .ok (.checkcast 39, 3) := by decide +kernel
theorem dX5_becomeLike_90 : decode cX5_becomeLike 90 = .ok (.aload_n 1, 1) := by decide +kernel
theorem dX5_becomeLike_91 : decode cX5_becomeLike 91 = .ok (.getfield 18, 3) := by decide +kernel
theorem dX5_becomeLike_94 : decode cX5_becomeLike 94 = .ok (.iload_n 2, 1) := by decide +kernel
theorem dX5_becomeLike_95 : decode cX5_becomeLike 95 = .ok (.invokevirtual 41, 3) := by decide +kernel
theorem dX5_becomeLike_98 : decode cX5_becomeLike 98 = .ok (.checkcast 39, 3) := by decide +kernel
theorem dX5_becomeLike_101 : decode cX5_becomeLike 101 = .ok (.invokevirtual 258, 3) := by decide +kernel
theorem dX5_becomeLike_104 : decode cX5_becomeLike 104 = .ok (.iinc 2 1, 3) := by decide +kernel
theorem dX5_becomeLike_107 : decode cX5_becomeLike 107 = .ok (.goto (-50), 3) := by decide +kernel
theorem dX5_becomeLike_110 : decode cX5_becomeLike 110 = .ok (.aload_n 0, 1) := by decide +kernel
theorem dX5_becomeLike_111 : decode cX5_becomeLike 111 = .ok (.getfield 27, 3) := by decide +kernel
theorem dX5_becomeLike_114 : decode cX5_becomeLike 114 = .ok (.aload_n 1, 1) := by decide +kernel
theorem dX5_becomeLike_115 : decode cX5_becomeLike 115 = .ok (.getfield 27, 3) := by decide +kernel
theorem dX5_becomeLike_118 : decode cX5_becomeLike 118 = .ok (.invokevirtual 261, 3) := by decide +kernel
theorem dX5_becomeLike_121 : decode cX5_becomeLike 121 = .ok (.aload_n 0, 1) := by decide +kernel
theorem dX5_becomeLike_122 : decode cX5_becomeLike 122 = .ok (.aload_n 1, 1) := by decide +kernel
theorem dX5_becomeLike_123 : decode cX5_becomeLike 123 = .ok (.getfield 62, 3) := by decide +kernel
theorem dX5_becomeLike_126 : decode cX5_becomeLike 126 = .ok (.putfield 62, 3) := by decide +kernel
theorem dX5_becomeLike_129 : decode cX5_becomeLike 129 = .ok (.aload_n 0, 1) := by decide +kernel
theorem dX5_becomeLike_130 : decode cX5_becomeLike 130 = .ok (.aload_n 1, 1) := by decide +kernel
theorem dX5_becomeLike_131 : decode cX5_becomeLike 131 = .ok (.getfield 31, 3) := by decide +kernel
theorem dX5_becomeLike_134 : decode cX5_becomeLike 134 = .ok (.putfield 31, 3) := by decide +kernel
theorem dX5_becomeLike_137 : decode cX5_becomeLike 137 = .ok (.aload_n 0, 1) := by decide +kernel
theorem dX5_becomeLike_138 : decode cX5_becomeLike 138 = .ok (.aload_n 1, 1) := by decide +kernel
theorem dX5_becomeLike_139 : decode cX5_becomeLike 139 = .ok (.getfield 206, 3) := by decide +kernel
theorem dX5_becomeLike_142 : decode cX5_becomeLike 142 = .ok (.putfield 206, 3) := by decide +kernel
theorem dX5_becomeLike_145 : decode cX5_becomeLike 145 = .ok (.aload_n 0, 1) := by decide +kernel
theorem dX5_becomeLike_146 : decode cX5_becomeLike 146 = .ok (.aload_n 1, 1) := by decide +kernel
theorem dX5_becomeLike_147 : decode cX5_becomeLike 147 = .ok (.getfield 144, 3) := by decide +kernel
theorem dX5_becomeLike_150 : decode cX5_becomeLike 150 = .ok (.putfield 144, 3) := by decide +kernel
theorem dX5_becomeLike_153 : decode cX5_becomeLike 153 = .ok (.aload_n 0, 1) := by decide +kernel
theorem dX5_becomeLike_154 : decode cX5_becomeLike 154 = .ok (.aload_n 1, 1) := by decide +kernel
theorem dX5_becomeLike_155 : decode cX5_becomeLike 155 = .ok (.getfield 138, 3) := by decide +kernel
theorem dX5_becomeLike_158 : decode cX5_becomeLike 158 = .ok (.putfield 138, 3) := by decide +kernel
theorem dX5_becomeLike_161 : decode cX5_becomeLike 161 = .ok (.aload_n 0, 1) := by decide +kernel
theorem dX5_becomeLike_162 : decode cX5_becomeLike 162 = .ok (.aload_n 1, 1) := by decide +kernel
theorem dX5_becomeLike_163 : decode cX5_becomeLike 163 = .ok (.getfield 173, 3) := by decide +kernel
theorem dX5_becomeLike_166 : decode cX5_becomeLike 166 = .ok (.putfield 173, 3) := by decide +kernel
theorem dX5_becomeLike_169 : decode cX5_becomeLike 169 = .ok (.aload_n 0, 1) := by decide +kernel
theorem dX5_becomeLike_170 : decode cX5_becomeLike 170 = .ok (.aload_n 1, 1) := by decide +kernel
theorem dX5_becomeLike_171 : decode cX5_becomeLike 171 = .ok (.getfield 191, 3) := by decide +kernel
theorem dX5_becomeLike_174 : decode cX5_becomeLike 174 = .ok (.putfield 191, 3) := by decide +kernel
theorem dX5_becomeLike_177 : decode cX5_becomeLike 177 = .ok (.aload_n 0, 1) := by decide +kernel
theorem dX5_becomeLike_178 : decode cX5_becomeLike 178 = .ok (.aload_n 1, 1) := by decide +kernel
theorem dX5_becomeLike_179 : decode cX5_becomeLike 179 = .ok (.getfield 194, 3) := by decide +kernel
theorem dX5_becomeLike_182 : decode cX5_becomeLike 182 = .ok (.putfield 194, 3) := by decide +kernel
theorem dX5_becomeLike_185 : decode cX5_becomeLike 185 = .ok (.aload_n 0, 1) := by decide +kernel
theorem dX5_becomeLike_186 : decode cX5_becomeLike 186 = .ok (.aload_n 1, 1) := by decide +kernel
theorem dX5_becomeLike_187 : decode cX5_becomeLike 187 = .ok (.getfield 248, 3) := by decide +kernel
theorem dX5_becomeLike_190 : decode cX5_becomeLike 190 = .ok (.putfield 248, 3) := by decide +kernel
theorem dX5_becomeLike_193 : decode cX5_becomeLike 193 = .ok (.aload_n 0, 1) := by decide +kernel
theorem dX5_becomeLike_194 : decode cX5_becomeLike 194 = .ok (.aload_n 1, 1) := by decide +kernel
theorem dX5_becomeLike_195 : decode cX5_becomeLike 195 = .ok (.getfield 251, 3) := by decide +kernel
theorem dX5_becomeLike_198 : decode cX5_becomeLike 198 = .ok (.putfield 251, 3) := by decide +kernel
theorem dX5_becomeLike_201 : decode cX5_becomeLike 201 = .ok (.aload_n 0, 1) := by decide +kernel
theorem dX5_becomeLike_202 : decode cX5_becomeLike 202 = .ok (.aload_n 1, 1) := by decide +kernel
theorem dX5_becomeLike_203 : decode cX5_becomeLike 203 = .ok (.getfield 65, 3) := by decide +kernel
theorem dX5_becomeLike_206 : decode cX5_becomeLike 206 = .ok (.putfield 65, 3) := by decide +kernel
theorem dX5_becomeLike_209 : decode cX5_becomeLike 209 = .ok (.return_, 1) := by decide +kernel
theorem dX7_init_0 : decode cX7_init 0 = .ok (.aload_n 0, 1) := by decide +kernel
theorem dX7_init_1 : decode cX7_init 1 = .ok (.invokespecial 1, 3) := by decide +kernel
theorem dX7_init_4 : decode cX7_init 4 = .ok (.aload_n 0, 1) := by decide +kernel
theorem dX7_init_5 : decode cX7_init 5 = .ok (.new 7, 3) := by decide +kernel
theorem dX7_init_8 : decode cX7_init 8 = .ok (.dup, 1) := by decide +kernel
theorem dX7_init_9 : decode cX7_init 9 = .ok (.invokespecial 9, 3) := by decide +kernel
theorem dX7_init_12 : decode cX7_init 12 = .ok (.putfield 10, 3) := by decide +kernel
theorem dX7_init_15 : decode cX7_init 15 = .ok (.aload_n 0, 1) := by decide +kernel
theorem dX7_init_16 : decode cX7_init 16 = .ok (.new 16, 3) := by decide +kernel
theorem dX7_init_19 : decode cX7_init 19 = .ok (.dup, 1) := by decide +kernel
theorem dX7_init_20 : decode cX7_init 20 = .ok (.invokespecial 18, 3) := by decide +kernel
theorem dX7_init_23 : decode cX7_init 23 = .ok (.putfield 19, 3) := by decide +kernel
theorem dX7_init_26 : decode cX7_init 26 = .ok (.aload_n 0, 1) := by decide +kernel
theorem dX7_init_27 : decode cX7_init 27 = .ok (.new 16, 3) := by decide +kernel
theorem dX7_init_30 : decode cX7_init 30 = .ok (.dup, 1) := by decide +kernel
theorem dX7_init_31 : decode cX7_init 31 = .ok (.invokespecial 18, 3) := by decide +kernel
theorem dX7_init_34 : decode cX7_init 34 = .ok (.putfield 23, 3) := by decide +kernel
theorem dX7_init_37 : decode cX7_init 37 = .ok (.return_, 1) := by decide +kernel
theorem dX7_pump_0 : decode cX7_pump 0 = .ok (.iload_n 1, 1) := by decide +kernel
theorem dX7_pump_1 : decode cX7_pump 1 = .ok (.bipush 10, 2) := by decide +kernel
theorem dX7_pump_3 : decode cX7_pump 3 = .ok (.if_icmp .lt 9, 3) := by decide +kernel
theorem dX7_pump_6 : decode cX7_pump 6 = .ok (.iload_n 1, 1) := by decide +kernel
theorem dX7_pump_7 : decode cX7_pump 7 = .ok (.bipush 60, 2) := by decide +kernel
theorem dX7_pump_9 : decode cX7_pump 9 = .ok (.if_icmp .le 13, 3) := by decide +kernel
theorem dX7_pump_12 : decode cX7_pump 12 = .ok (.new 26, 3) := by decide +kernel
theorem dX7_pump_15 : decode cX7_pump 15 = .ok (.dup, 1) := by decide +kernel
theorem dX7_pump_16 : decode cX7_pump 16 = .ok (.ldc 28, 2) := by decide +kernel
theorem dX7_pump_18 : decode cX7_pump 18 = .ok (.invokespecial 30, 3) := by decide +kernel
theorem dX7_pump_21 : decode cX7_pump 21 = .ok (.athrow, 1) := by decide +kernel
theorem dX7_pump_22 : decode cX7_pump 22 = .ok (.aload_n 0, 1) := by decide +kernel
theorem dX7_pump_23 : decode cX7_pump 23 = .ok (.getfield 19, 3) := by decide +kernel
theorem dX7_pump_26 : decode cX7_pump 26 = .ok (.getfield 33, 3) := by decide +kernel
theorem dX7_pump_29 : decode cX7_pump 29 = .ok (.invokevirtual 36, 3) := by decide +kernel
theorem dX7_pump_32 : decode cX7_pump 32 = .ok (.istore_n 2, 1) := by decide +kernel
theorem dX7_pump_33 : decode cX7_pump 33 = .ok (.iload_n 2, 1) := by decide +kernel
theorem dX7_pump_34 : decode cX7_pump 34 = .ok (.iconst 3, 1) := by decide +kernel
theorem dX7_pump_35 : decode cX7_pump 35 = .ok (.if_icmp .lt 13, 3) := by decide +kernel
theorem dX7_pump_38 : decode cX7_pump 38 = .ok (.new 40, 3) := by decide +kernel
theorem dX7_pump_41 : decode cX7_pump 41 = .ok (.dup, 1) := by decide +kernel
theorem dX7_pump_42 : decode cX7_pump 42 = .ok (.ldc 42, 2) := by decide +kernel
theorem dX7_pump_44 : decode cX7_pump 44 = .ok (.invokespecial 44, 3) := by decide +kernel
theorem dX7_pump_47 : decode cX7_pump 47 = .ok (.athrow, 1) := by decide +kernel
theorem dX7_pump_48 : decode cX7_pump 48 = .ok (.aload_n 0, 1) := by decide +kernel
theorem dX7_pump_49 : decode cX7_pump 49 = .ok (.getfield 19, 3) := by decide +kernel
theorem dX7_pump_52 : decode cX7_pump 52 = .ok (.getfield 33, 3) := by decide +kernel
theorem dX7_pump_55 : decode cX7_pump 55 = .ok (.new 45, 3) := by decide +kernel
theorem dX7_pump_58 : decode cX7_pump 58 = .ok (.dup, 1) := by decide +kernel
theorem dX7_pump_59 : decode cX7_pump 59 = .ok (.iload_n 2, 1) := by decide +kernel
theorem dX7_pump_60 : decode cX7_pump 60 = .ok (.iload_n 1, 1) := by decide +kernel
theorem dX7_pump_61 : decode cX7_pump 61 = .ok (.invokespecial 47, 3) := by decide +kernel
theorem dX7_pump_64 : decode cX7_pump 64 = .ok (.invokevirtual 50, 3) := by decide +kernel
theorem dX7_pump_67 : decode cX7_pump 67 = .ok (.pop, 1) := by decide +kernel
theorem dX7_pump_68 : decode cX7_pump 68 = .ok (.aload_n 0, 1) := by decide +kernel
theorem dX7_pump_69 : decode cX7_pump 69 = .ok (.getfield 23, 3) := by decide +kernel
theorem dX7_pump_72 : decode cX7_pump 72 = .ok (.getfield 33, 3) := by decide +kernel
theorem dX7_pump_75 : decode cX7_pump 75 = .ok (.new 45, 3) := by decide +kernel
theorem dX7_pump_78 : decode cX7_pump 78 = .ok (.dup, 1) := by decide +kernel
theorem dX7_pump_79 : decode cX7_pump 79 = .ok (.iload_n 2, 1) := by decide +kernel
theorem dX7_pump_80 : decode cX7_pump 80 = .ok (.iload_n 1, 1) := by decide +kernel
theorem dX7_pump_81 : decode cX7_pump 81 = .ok (.invokespecial 47, 3) := by decide +kernel
theorem dX7_pump_84 : decode cX7_pump 84 = .ok (.invokevirtual 50, 3) := by decide +kernel
theorem dX7_pump_87 : decode cX7_pump 87 = .ok (.pop, 1) := by decide +kernel
theorem dX7_pump_88 : decode cX7_pump 88 = .ok (.iload_n 2, 1) := by decide +kernel
theorem dX7_pump_89 : decode cX7_pump 89 = .ok (.ireturn, 1) := by decide +kernel
theorem dX7_jet_0 : decode cX7_jet 0 = .ok (.aload_n 0, 1) := by decide +kernel
theorem dX7_jet_1 : decode cX7_jet 1 = .ok (.iload_n 1, 1) := by decide +kernel
theorem dX7_jet_2 : decode cX7_jet 2 = .ok (.invokevirtual 54, 3) := by decide +kernel
theorem dX7_jet_5 : decode cX7_jet 5 = .ok (.pop, 1) := by decide +kernel
theorem dX7_jet_6 : decode cX7_jet 6 = .ok (.iload_n 2, 1) := by decide +kernel
theorem dX7_jet_7 : decode cX7_jet 7 = .ok (.ifCond .lt 32, 3) := by decide +kernel
theorem dX7_jet_10 : decode cX7_jet 10 = .ok (.iload_n 2, 1) := by decide +kernel
theorem dX7_jet_11 : decode cX7_jet 11 = .ok (.bipush 19, 2) := by decide +kernel
theorem dX7_jet_13 : decode cX7_jet 13 = .ok (.if_icmp .gt 26, 3) := by decide +kernel
theorem dX7_jet_16 : decode cX7_jet 16 = .ok (.iload_n 3, 1) := by decide +kernel
theorem dX7_jet_17 : decode cX7_jet 17 = .ok (.iconst 1, 1) := by decide +kernel
theorem dX7_jet_18 : decode cX7_jet 18 = .ok (.if_icmp .lt 21, 3) := by decide +kernel
theorem dX7_jet_21 : decode cX7_jet 21 = .ok (.iload_n 3, 1) := by decide +kernel
theorem dX7_jet_22 : decode cX7_jet 22 = .ok (.iconst 5, 1) := by decide +kernel
theorem dX7_jet_23 : decode cX7_jet 23 = .ok (.if_icmp .gt 16, 3) := by decide +kernel
theorem dX7_jet_26 : decode cX7_jet 26 = .ok (.iload 4, 2) := by decide +kernel
theorem dX7_jet_28 : decode cX7_jet 28 = .ok (.bipush (-3), 2) := by decide +kernel
theorem dX7_jet_30 : decode cX7_jet 30 = .ok (.if_icmp .lt 9, 3) := by decide +kernel
theorem dX7_jet_33 : decode cX7_jet 33 = .ok (.iload 4, 2) := by decide +kernel
theorem dX7_jet_35 : decode cX7_jet 35 = .ok (.iconst 3, 1) := by decide +kernel
theorem dX7_jet_36 : decode cX7_jet 36 = .ok (.if_icmp .le 13, 3) := by decide +kernel
theorem dX7_jet_39 : decode cX7_jet 39 = .ok (.new 26, 3) := by decide +kernel
theorem dX7_jet_42 : decode cX7_jet 42 = .ok (.dup, 1) := by decide +kernel
theorem dX7_jet_43 : decode cX7_jet 43 = .ok (.ldc 58, 2) := by decide +kernel
theorem dX7_jet_45 : decode cX7_jet 45 = .ok (.invokespecial 30, 3) := by decide +kernel
theorem dX7_jet_48 : decode cX7_jet 48 = .ok (.athrow, 1) := by decide +kernel
theorem dX7_jet_49 : decode cX7_jet 49 = .ok (.aload_n 0, 1) := by decide +kernel
theorem dX7_jet_50 : decode cX7_jet 50 = .ok (.getfield 19, 3) := by decide +kernel
theorem dX7_jet_53 : decode cX7_jet 53 = .ok (.getfield 60, 3) := by decide +kernel
theorem dX7_jet_56 : decode cX7_jet 56 = .ok (.invokevirtual 36, 3) := by decide +kernel
theorem dX7_jet_59 : decode cX7_jet 59 = .ok (.istore 5, 2) := by decide +kernel
theorem dX7_jet_61 : decode cX7_jet 61 = .ok (.iload 5, 2) := by decide +kernel
theorem dX7_jet_63 : decode cX7_jet 63 = .ok (.bipush 10, 2) := by decide +kernel
theorem dX7_jet_65 : decode cX7_jet 65 = .ok (.if_icmp .lt 13, 3) := by decide +kernel
theorem dX7_jet_68 : decode cX7_jet 68 = .ok (.new 40, 3) := by decide +kernel
theorem dX7_jet_71 : decode cX7_jet 71 = .ok (.dup, 1) := by decide +kernel
theorem dX7_jet_72 : decode cX7_jet 72 = .ok (.ldc 63, 2) := by decide +kernel
theorem dX7_jet_74 : decode cX7_jet 74 = .ok (.invokespecial 44, 3) := by decide +kernel
theorem dX7_jet_77 : decode cX7_jet 77 = .ok (.athrow, 1) := by decide +kernel
theorem dX7_jet_78 : decode cX7_jet 78 = .ok (.aload_n 0, 1) := by decide +kernel
theorem dX7_jet_79 : decode cX7_jet 79 = .ok (.getfield 19, 3) := by decide +kernel
theorem dX7_jet_82 : decode cX7_jet 82 = .ok (.iload_n 1, 1) := by decide +kernel
theorem dX7_jet_83 : decode cX7_jet 83 = .ok (.iload_n 2, 1) := by decide +kernel
theorem dX7_jet_84 : decode cX7_jet 84 = .ok (.iload_n 3, 1) := by decide +kernel
theorem dX7_jet_85 : decode cX7_jet 85 = .ok (.iload 4, 2) := by decide +kernel
theorem dX7_jet_87 : decode cX7_jet 87 = .ok (.invokevirtual 65, 3) := by decide +kernel
theorem dX7_jet_90 : decode cX7_jet 90 = .ok (.aload_n 0, 1) := by decide +kernel
theorem dX7_jet_91 : decode cX7_jet 91 = .ok (.getfield 23, 3) := by decide +kernel
theorem dX7_jet_94 : decode cX7_jet 94 = .ok (.iload_n 1, 1) := by decide +kernel
theorem dX7_jet_95 : decode cX7_jet 95 = .ok (.iload_n 2, 1) := by decide +kernel
theorem dX7_jet_96 : decode cX7_jet 96 = .ok (.iload_n 3, 1) := by decide +kernel
theorem dX7_jet_97 : decode cX7_jet 97 = .ok (.iload 4, 2) := by decide +kernel
theorem dX7_jet_99 : decode cX7_jet 99 = .ok (.invokevirtual 65, 3) := by decide +kernel
theorem dX7_jet_102 : decode cX7_jet 102 = .ok (.iload 5, 2) := by decide +kernel
theorem dX7_jet_104 : decode cX7_jet 104 = .ok (.ireturn, 1) := by decide +kernel
theorem dX7_figure_0 : decode cX7_figure 0 = .ok (.aload_n 0, 1) := by decide +kernel
theorem dX7_figure_1 : decode cX7_figure 1 = .ok (.getfield 10, 3) := by decide +kernel
theorem dX7_figure_4 : decode cX7_figure 4 = .ok (.invokevirtual 36, 3) := by decide +kernel
theorem dX7_figure_7 : decode cX7_figure 7 = .ok (.istore_n 1, 1) := by decide +kernel
theorem dX7_figure_8 : decode cX7_figure 8 = .ok (.iload_n 1, 1) := by decide +kernel
theorem dX7_figure_9 : decode cX7_figure 9 = .ok (.iconst 5, 1) := by decide +kernel
theorem dX7_figure_10 : decode cX7_figure 10 = .ok (.if_icmp .lt 13, 3) := by decide +kernel
theorem dX7_figure_13 : decode cX7_figure 13 = .ok (.new 40, 3) := by decide +kernel
theorem dX7_figure_16 : decode cX7_figure 16 = .ok (.dup, 1) := by decide +kernel
theorem dX7_figure_17 : decode cX7_figure 17 = .ok (.ldc 69, 2) := by decide +kernel
theorem dX7_figure_19 : decode cX7_figure 19 = .ok (.invokespecial 44, 3) := by decide +kernel
theorem dX7_figure_22 : decode cX7_figure 22 = .ok (.athrow, 1) := by decide +kernel
theorem dX7_figure_23 : decode cX7_figure 23 = .ok (.aload_n 0, 1) := by decide +kernel
theorem dX7_figure_24 : decode cX7_figure 24 = .ok (.getfield 10, 3) := by decide +kernel
theorem dX7_figure_27 : decode cX7_figure 27 = .ok (.new 71, 3) := by decide +kernel
theorem dX7_figure_30 : decode cX7_figure 30 = .ok (.dup, 1) := by decide +kernel
theorem dX7_figure_31 : decode cX7_figure 31 = .ok (.invokespecial 73, 3) := by decide +kernel
theorem dX7_figure_34 : decode cX7_figure 34 = .ok (.invokevirtual 50, 3) := by decide +kernel
theorem dX7_figure_37 : decode cX7_figure 37 = .ok (.pop, 1) := by decide +kernel
theorem dX7_figure_38 : decode cX7_figure 38 = .ok (.iload_n 1, 1) := by decide +kernel
theorem dX7_figure_39 : decode cX7_figure 39 = .ok (.ireturn, 1) := by decide +kernel
theorem dX7_step_0 : decode cX7_step 0 = .ok (.aload_n 0, 1) := by decide +kernel
theorem dX7_step_1 : decode cX7_step 1 = .ok (.iload_n 1, 1) := by decide +kernel
theorem dX7_step_2 : decode cX7_step 2 = .ok (.invokevirtual 74, 3) := by decide +kernel
theorem dX7_step_5 : decode cX7_step 5 = .ok (.astore 5, 2) := by decide +kernel
theorem dX7_step_7 : decode cX7_step 7 = .ok (.iload_n 2, 1) := by decide +kernel
theorem dX7_step_8 : decode cX7_step 8 = .ok (.ifCond .lt 29, 3) := by decide +kernel
theorem dX7_step_11 : decode cX7_step 11 = .ok (.iload_n 2, 1) := by decide +kernel
theorem dX7_step_12 : decode cX7_step 12 = .ok (.bipush 99, 2) := by decide +kernel
theorem dX7_step_14 : decode cX7_step 14 = .ok (.if_icmp .gt 23, 3) := by decide +kernel
theorem dX7_step_17 : decode cX7_step 17 = .ok (.iload_n 3, 1) := by decide +kernel
theorem dX7_step_18 : decode cX7_step 18 = .ok (.iconst 1, 1) := by decide +kernel
theorem dX7_step_19 : decode cX7_step 19 = .ok (.if_icmp .lt 18, 3) := by decide +kernel
theorem dX7_step_22 : decode cX7_step 22 = .ok (.iload_n 3, 1) := by decide +kernel
theorem dX7_step_23 : decode cX7_step 23 = .ok (.sipush 1023, 3) := by decide +kernel
theorem dX7_step_26 : decode cX7_step 26 = .ok (.if_icmp .gt 11, 3) := by decide +kernel
theorem dX7_step_29 : decode cX7_step 29 = .ok (.iload 4, 2) := by decide +kernel
theorem dX7_step_31 : decode cX7_step 31 = .ok (.invokestatic 78, 3) := by decide +kernel
theorem dX7_step_34 : decode cX7_step 34 = .ok (.ifCond .ne 13, 3) := by decide +kernel
theorem dX7_step_37 : decode cX7_step 37 = .ok (.new 26, 3) := by decide +kernel
theorem dX7_step_40 : decode cX7_step 40 = .ok (.dup, 1) := by decide +kernel
theorem dX7_step_41 : decode cX7_step 41 = .ok (.ldc 82, 2) := by decide +kernel
theorem dX7_step_43 : decode cX7_step 43 = .ok (.invokespecial 30, 3) := by decide +kernel
theorem dX7_step_46 : decode cX7_step 46 = .ok (.athrow, 1) := by decide +kernel
theorem dX7_step_47 : decode cX7_step 47 = .ok (.aload 5, 2) := by decide +kernel
theorem dX7_step_49 : decode cX7_step 49 = .ok (.getfield 84, 3) := by decide +kernel
theorem dX7_step_52 : decode cX7_step 52 = .ok (.invokevirtual 36, 3) := by decide +kernel
theorem dX7_step_55 : decode cX7_step 55 = .ok (.bipush 8, 2) := by decide +kernel
theorem dX7_step_57 : decode cX7_step 57 = .ok (.if_icmp .lt 13, 3) := by decide +kernel
theorem dX7_step_60 : decode cX7_step 60 = .ok (.new 40, 3) := by decide +kernel
theorem dX7_step_63 : decode cX7_step 63 = .ok (.dup, 1) := by decide +kernel
theorem dX7_step_64 : decode cX7_step 64 = .ok (.ldc 87, 2) := by decide +kernel
theorem dX7_step_66 : decode cX7_step 66 = .ok (.invokespecial 44, 3) := by decide +kernel
theorem dX7_step_69 : decode cX7_step 69 = .ok (.athrow, 1) := by decide +kernel
theorem dX7_step_70 : decode cX7_step 70 = .ok (.aload 5, 2) := by decide +kernel
theorem dX7_step_72 : decode cX7_step 72 = .ok (.getfield 84, 3) := by decide +kernel
theorem dX7_step_75 : decode cX7_step 75 = .ok (.new 89, 3) := by decide +kernel
theorem dX7_step_78 : decode cX7_step 78 = .ok (.dup, 1) := by decide +kernel
theorem dX7_step_79 : decode cX7_step 79 = .ok (.iload_n 2, 1) := by decide +kernel
theorem dX7_step_80 : decode cX7_step 80 = .ok (.iload_n 3, 1) := by decide +kernel
theorem dX7_step_81 : decode cX7_step 81 = .ok (.iload 4, 2) := by decide +kernel
theorem dX7_step_83 : decode cX7_step 83 = .ok (.invokespecial 91, 3) := by decide +kernel
theorem dX7_step_86 : decode cX7_step 86 = .ok (.invokevirtual 50, 3) := by decide +kernel
theorem dX7_step_89 : decode cX7_step 89 = .ok (.pop, 1) := by decide +kernel
theorem dX7_step_90 : decode cX7_step 90 = .ok (.aload 5, 2) := by decide +kernel
theorem dX7_step_92 : decode cX7_step 92 = .ok (.getfield 84, 3) := by decide +kernel
theorem dX7_step_95 : decode cX7_step 95 = .ok (.invokevirtual 36, 3) := by decide +kernel
theorem dX7_step_98 : decode cX7_step 98 = .ok (.ireturn, 1) := by decide +kernel
theorem dX7_wind_0 : decode cX7_wind 0 = .ok (.iload_n 1, 1) := by decide +kernel
theorem dX7_wind_1 : decode cX7_wind 1 = .ok (.bipush (-4), 2) := by decide +kernel
theorem dX7_wind_3 : decode cX7_wind 3 = .ok (.if_icmp .lt 17, 3) := by decide +kernel
theorem dX7_wind_6 : decode cX7_wind 6 = .ok (.iload_n 1, 1) := by decide +kernel
theorem dX7_wind_7 : decode cX7_wind 7 = .ok (.iconst 4, 1) := by decide +kernel
theorem dX7_wind_8 : decode cX7_wind 8 = .ok (.if_icmp .gt 12, 3) := by decide +kernel
theorem dX7_wind_11 : decode cX7_wind 11 = .ok (.iload_n 2, 1) := by decide +kernel
theorem dX7_wind_12 : decode cX7_wind 12 = .ok (.ifCond .lt 8, 3) := by decide +kernel
theorem dX7_wind_15 : decode cX7_wind 15 = .ok (.iload_n 2, 1) := by decide +kernel
theorem dX7_wind_16 : decode cX7_wind 16 = .ok (.iconst 2, 1) := by decide +kernel
theorem dX7_wind_17 : decode cX7_wind 17 = .ok (.if_icmp .le 13, 3) := by decide +kernel
theorem dX7_wind_20 : decode cX7_wind 20 = .ok (.new 26, 3) := by decide +kernel
theorem dX7_wind_23 : decode cX7_wind 23 = .ok (.dup, 1) := by decide +kernel
theorem dX7_wind_24 : decode cX7_wind 24 = .ok (.ldc 94, 2) := by decide +kernel
theorem dX7_wind_26 : decode cX7_wind 26 = .ok (.invokespecial 30, 3) := by decide +kernel
theorem dX7_wind_29 : decode cX7_wind 29 = .ok (.athrow, 1) := by decide +kernel
theorem dX7_wind_30 : decode cX7_wind 30 = .ok (.aload_n 0, 1) := by decide +kernel
theorem dX7_wind_31 : decode cX7_wind 31 = .ok (.getfield 19, 3) := by decide +kernel
theorem dX7_wind_34 : decode cX7_wind 34 = .ok (.getfield 96, 3) := by decide +kernel
theorem dX7_wind_37 : decode cX7_wind 37 = .ok (.istore_n 3, 1) := by decide +kernel
theorem dX7_wind_38 : decode cX7_wind 38 = .ok (.aload_n 0, 1) := by decide +kernel
theorem dX7_wind_39 : decode cX7_wind 39 = .ok (.getfield 19, 3) := by decide +kernel
theorem dX7_wind_42 : decode cX7_wind 42 = .ok (.iload_n 1, 1) := by decide +kernel
theorem dX7_wind_43 : decode cX7_wind 43 = .ok (.putfield 96, 3) := by decide +kernel
theorem dX7_wind_46 : decode cX7_wind 46 = .ok (.aload_n 0, 1) := by decide +kernel
theorem dX7_wind_47 : decode cX7_wind 47 = .ok (.getfield 19, 3) := by decide +kernel
theorem dX7_wind_50 : decode cX7_wind 50 = .ok (.iload_n 2, 1) := by decide +kernel
theorem dX7_wind_51 : decode cX7_wind 51 = .ok (.putfield 100, 3) := by decide +kernel
theorem dX7_wind_54 : decode cX7_wind 54 = .ok (.iload_n 3, 1) := by decide +kernel
theorem dX7_wind_55 : decode cX7_wind 55 = .ok (.ireturn, 1) := by decide +kernel
theorem dX7_valve_0 : decode cX7_valve 0 = .ok (.aload_n 0, 1) := by decide +kernel
theorem dX7_valve_1 : decode cX7_valve 1 = .ok (.iload_n 1, 1) := by decide +kernel
theorem dX7_valve_2 : decode cX7_valve 2 = .ok (.invokevirtual 103, 3) := by decide +kernel
theorem dX7_valve_5 : decode cX7_valve 5 = .ok (.astore_n 3, 1) := by decide +kernel
theorem dX7_valve_6 : decode cX7_valve 6 = .ok (.iload_n 2, 1) := by decide +kernel
theorem dX7_valve_7 : decode cX7_valve 7 = .ok (.ifCond .lt 8, 3) := by decide +kernel
theorem dX7_valve_10 : decode cX7_valve 10 = .ok (.iload_n 2, 1) := by decide +kernel
theorem dX7_valve_11 : decode cX7_valve 11 = .ok (.iconst 4, 1) := by decide +kernel
theorem dX7_valve_12 : decode cX7_valve 12 = .ok (.if_icmp .le 13, 3) := by decide +kernel
theorem dX7_valve_15 : decode cX7_valve 15 = .ok (.new 26, 3) := by decide +kernel
theorem dX7_valve_18 : decode cX7_valve 18 = .ok (.dup, 1) := by decide +kernel
theorem dX7_valve_19 : decode cX7_valve 19 = .ok (.ldc 107, 2) := by decide +kernel
theorem dX7_valve_21 : decode cX7_valve 21 = .ok (.invokespecial 30, 3) := by decide +kernel
theorem dX7_valve_24 : decode cX7_valve 24 = .ok (.athrow, 1) := by decide +kernel
theorem dX7_valve_25 : decode cX7_valve 25 = .ok (.aload_n 0, 1) := by decide +kernel
theorem dX7_valve_26 : decode cX7_valve 26 = .ok (.getfield 19, 3) := by decide +kernel
theorem dX7_valve_29 : decode cX7_valve 29 = .ok (.getfield 109, 3) := by decide +kernel
theorem dX7_valve_32 : decode cX7_valve 32 = .ok (.ifCond .eq 13, 3) := by decide +kernel
theorem dX7_valve_35 : decode cX7_valve 35 = .ok (.new 40, 3) := by decide +kernel
theorem dX7_valve_38 : decode cX7_valve 38 = .ok (.dup, 1) := by decide +kernel
theorem dX7_valve_39 : decode cX7_valve 39 = .ok (.ldc 113, 2) := by decide +kernel
theorem dX7_valve_41 : decode cX7_valve 41 = .ok (.invokespecial 44, 3) := by decide +kernel
theorem dX7_valve_44 : decode cX7_valve 44 = .ok (.athrow, 1) := by decide +kernel
theorem dX7_valve_45 : decode cX7_valve 45 = .ok (.aload_n 3, 1) := by decide +kernel
theorem dX7_valve_46 : decode cX7_valve 46 = .ok (.getfield 115, 3) := by decide +kernel
theorem dX7_valve_49 : decode cX7_valve 49 = .ok (.istore 4, 2) := by decide +kernel
theorem dX7_valve_51 : decode cX7_valve 51 = .ok (.aload_n 3, 1) := by decide +kernel
theorem dX7_valve_52 : decode cX7_valve 52 = .ok (.iload_n 2, 1) := by decide +kernel
theorem dX7_valve_53 : decode cX7_valve 53 = .ok (.putfield 115, 3) := by decide +kernel
theorem dX7_valve_56 : decode cX7_valve 56 = .ok (.iload 4, 2) := by decide +kernel
theorem dX7_valve_58 : decode cX7_valve 58 = .ok (.ireturn, 1) := by decide +kernel
theorem dX7_setting_0 : decode cX7_setting 0 = .ok (.aload_n 0, 1) := by decide +kernel
theorem dX7_setting_1 : decode cX7_setting 1 = .ok (.iload_n 1, 1) := by decide +kernel
theorem dX7_setting_2 : decode cX7_setting 2 = .ok (.invokevirtual 54, 3) := by decide +kernel
theorem dX7_setting_5 : decode cX7_setting 5 = .ok (.astore_n 3, 1) := by decide +kernel
theorem dX7_setting_6 : decode cX7_setting 6 = .ok (.iload_n 2, 1) := by decide +kernel
theorem dX7_setting_7 : decode cX7_setting 7 = .ok (.ifCond .lt 9, 3) := by decide +kernel
theorem dX7_setting_10 : decode cX7_setting 10 = .ok (.iload_n 2, 1) := by decide +kernel
theorem dX7_setting_11 : decode cX7_setting 11 = .ok (.bipush 10, 2) := by decide +kernel
theorem dX7_setting_13 : decode cX7_setting 13 = .ok (.if_icmp .le 13, 3) := by decide +kernel
theorem dX7_setting_16 : decode cX7_setting 16 = .ok (.new 26, 3) := by decide +kernel
theorem dX7_setting_19 : decode cX7_setting 19 = .ok (.dup, 1) := by decide +kernel
theorem dX7_setting_20 : decode cX7_setting 20 = .ok (.ldc 120, 2) := by decide +kernel
theorem dX7_setting_22 : decode cX7_setting 22 = .ok (.invokespecial 30, 3) := by decide +kernel
theorem dX7_setting_25 : decode cX7_setting 25 = .ok (.athrow, 1) := by decide +kernel
theorem dX7_setting_26 : decode cX7_setting 26 = .ok (.aload_n 0, 1) := by decide +kernel
theorem dX7_setting_27 : decode cX7_setting 27 = .ok (.getfield 19, 3) := by decide +kernel
theorem dX7_setting_30 : decode cX7_setting 30 = .ok (.getfield 109, 3) := by decide +kernel
theorem dX7_setting_33 : decode cX7_setting 33 = .ok (.ifCond .ne 10, 3) := by decide +kernel
theorem dX7_setting_36 : decode cX7_setting 36 = .ok (.aload_n 3, 1) := by decide +kernel
theorem dX7_setting_37 : decode cX7_setting 37 = .ok (.getfield 122, 3) := by decide +kernel
theorem dX7_setting_40 : decode cX7_setting 40 = .ok (.ifCond .eq 13, 3) := by decide +kernel
theorem dX7_setting_43 : decode cX7_setting 43 = .ok (.new 40, 3) := by decide +kernel
theorem dX7_setting_46 : decode cX7_setting 46 = .ok (.dup, 1) := by decide +kernel
theorem dX7_setting_47 : decode cX7_setting 47 = .ok (.ldc 125, 2) := by decide +kernel
theorem dX7_setting_49 : decode cX7_setting 49 = .ok (.invokespecial 44, 3) := by decide +kernel
theorem dX7_setting_52 : decode cX7_setting 52 = .ok (.athrow, 1) := by decide +kernel
theorem dX7_setting_53 : decode cX7_setting 53 = .ok (.aload_n 3, 1) := by decide +kernel
theorem dX7_setting_54 : decode cX7_setting 54 = .ok (.getfield 127, 3) := by decide +kernel
theorem dX7_setting_57 : decode cX7_setting 57 = .ok (.istore 4, 2) := by decide +kernel
theorem dX7_setting_59 : decode cX7_setting 59 = .ok (.aload_n 3, 1) := by decide +kernel
theorem dX7_setting_60 : decode cX7_setting 60 = .ok (.iload_n 2, 1) := by decide +kernel
theorem dX7_setting_61 : decode cX7_setting 61 = .ok (.invokevirtual 130, 3) := by decide +kernel
theorem dX7_setting_64 : decode cX7_setting 64 = .ok (.iload 4, 2) := by decide +kernel
theorem dX7_setting_66 : decode cX7_setting 66 = .ok (.ireturn, 1) := by decide +kernel
theorem dX7_reset_0 : decode cX7_reset 0 = .ok (.aload_n 0, 1) := by decide +kernel
theorem dX7_reset_1 : decode cX7_reset 1 = .ok (.iload_n 1, 1) := by decide +kernel
theorem dX7_reset_2 : decode cX7_reset 2 = .ok (.invokevirtual 54, 3) := by decide +kernel
theorem dX7_reset_5 : decode cX7_reset 5 = .ok (.astore_n 2, 1) := by decide +kernel
theorem dX7_reset_6 : decode cX7_reset 6 = .ok (.aload_n 2, 1) := by decide +kernel
theorem dX7_reset_7 : decode cX7_reset 7 = .ok (.getfield 122, 3) := by decide +kernel
theorem dX7_reset_10 : decode cX7_reset 10 = .ok (.ifCond .eq 16, 3) := by decide +kernel
theorem dX7_reset_13 : decode cX7_reset 13 = .ok (.aload_n 0, 1) := by decide +kernel
theorem dX7_reset_14 : decode cX7_reset 14 = .ok (.getfield 19, 3) := by decide +kernel
theorem dX7_reset_17 : decode cX7_reset 17 = .ok (.getfield 134, 3) := by decide +kernel
theorem dX7_reset_20 : decode cX7_reset 20 = .ok (.sipush 300, 3) := by decide +kernel
theorem dX7_reset_23 : decode cX7_reset 23 = .ok (.if_icmp .ge 13, 3) := by decide +kernel
theorem dX7_reset_26 : decode cX7_reset 26 = .ok (.new 40, 3) := by decide +kernel
theorem dX7_reset_29 : decode cX7_reset 29 = .ok (.dup, 1) := by decide +kernel
theorem dX7_reset_30 : decode cX7_reset 30 = .ok (.ldc 137, 2) := by decide +kernel
theorem dX7_reset_32 : decode cX7_reset 32 = .ok (.invokespecial 44, 3) := by decide +kernel
theorem dX7_reset_35 : decode cX7_reset 35 = .ok (.athrow, 1) := by decide +kernel
theorem dX7_reset_36 : decode cX7_reset 36 = .ok (.aload_n 2, 1) := by decide +kernel
theorem dX7_reset_37 : decode cX7_reset 37 = .ok (.iconst 0, 1) := by decide +kernel
theorem dX7_reset_38 : decode cX7_reset 38 = .ok (.putfield 122, 3) := by decide +kernel
theorem dX7_reset_41 : decode cX7_reset 41 = .ok (.aload_n 2, 1) := by decide +kernel
theorem dX7_reset_42 : decode cX7_reset 42 = .ok (.getfield 139, 3) := by decide +kernel
theorem dX7_reset_45 : decode cX7_reset 45 = .ok (.ireturn, 1) := by decide +kernel
theorem dX7_lamp_0 : decode cX7_lamp 0 = .ok (.aload_n 0, 1) := by decide +kernel
theorem dX7_lamp_1 : decode cX7_lamp 1 = .ok (.iload_n 1, 1) := by decide +kernel
theorem dX7_lamp_2 : decode cX7_lamp 2 = .ok (.invokevirtual 103, 3) := by decide +kernel
theorem dX7_lamp_5 : decode cX7_lamp 5 = .ok (.astore_n 3, 1) := by decide +kernel
theorem dX7_lamp_6 : decode cX7_lamp 6 = .ok (.aload_n 3, 1) := by decide +kernel
theorem dX7_lamp_7 : decode cX7_lamp 7 = .ok (.getfield 142, 3) := by decide +kernel
theorem dX7_lamp_10 : decode cX7_lamp 10 = .ok (.istore 4, 2) := by decide +kernel
theorem dX7_lamp_12 : decode cX7_lamp 12 = .ok (.aload_n 3, 1) := by decide +kernel
theorem dX7_lamp_13 : decode cX7_lamp 13 = .ok (.iload_n 2, 1) := by decide +kernel
theorem dX7_lamp_14 : decode cX7_lamp 14 = .ok (.putfield 142, 3) := by decide +kernel
theorem dX7_lamp_17 : decode cX7_lamp 17 = .ok (.iload 4, 2) := by decide +kernel
theorem dX7_lamp_19 : decode cX7_lamp 19 = .ok (.ireturn, 1) := by decide +kernel
theorem dX7_fault_0 : decode cX7_fault 0 = .ok (.aload_n 0, 1) := by decide +kernel
theorem dX7_fault_1 : decode cX7_fault 1 = .ok (.iload_n 1, 1) := by decide +kernel
theorem dX7_fault_2 : decode cX7_fault 2 = .ok (.invokevirtual 103, 3) := by decide +kernel
theorem dX7_fault_5 : decode cX7_fault 5 = .ok (.astore 4, 2) := by decide +kernel
theorem dX7_fault_7 : decode cX7_fault 7 = .ok (.aload 4, 2) := by decide +kernel
theorem dX7_fault_9 : decode cX7_fault 9 = .ok (.getfield 145, 3) := by decide +kernel
theorem dX7_fault_12 : decode cX7_fault 12 = .ok (.istore 5, 2) := by decide +kernel
theorem dX7_fault_14 : decode cX7_fault 14 = .ok (.aload 4, 2) := by decide +kernel
theorem dX7_fault_16 : decode cX7_fault 16 = .ok (.iload_n 2, 1) := by decide +kernel
theorem dX7_fault_17 : decode cX7_fault 17 = .ok (.putfield 145, 3) := by decide +kernel
theorem dX7_fault_20 : decode cX7_fault 20 = .ok (.aload 4, 2) := by decide +kernel
theorem dX7_fault_22 : decode cX7_fault 22 = .ok (.iload_n 3, 1) := by decide +kernel
theorem dX7_fault_23 : decode cX7_fault 23 = .ok (.putfield 148, 3) := by decide +kernel
theorem dX7_fault_26 : decode cX7_fault 26 = .ok (.iload 5, 2) := by decide +kernel
theorem dX7_fault_28 : decode cX7_fault 28 = .ok (.ireturn, 1) := by decide +kernel
theorem dX7_swim_0 : decode cX7_swim 0 = .ok (.aload_n 0, 1) := by decide +kernel
theorem dX7_swim_1 : decode cX7_swim 1 = .ok (.getfield 19, 3) := by decide +kernel
theorem dX7_swim_4 : decode cX7_swim 4 = .ok (.getfield 109, 3) := by decide +kernel
theorem dX7_swim_7 : decode cX7_swim 7 = .ok (.istore_n 2, 1) := by decide +kernel
theorem dX7_swim_8 : decode cX7_swim 8 = .ok (.aload_n 0, 1) := by decide +kernel
theorem dX7_swim_9 : decode cX7_swim 9 = .ok (.getfield 19, 3) := by decide +kernel
theorem dX7_swim_12 : decode cX7_swim 12 = .ok (.iload_n 1, 1) := by decide +kernel
theorem dX7_swim_13 : decode cX7_swim 13 = .ok (.putfield 109, 3) := by decide +kernel
theorem dX7_swim_16 : decode cX7_swim 16 = .ok (.iload_n 1, 1) := by decide +kernel
theorem dX7_swim_17 : decode cX7_swim 17 = .ok (.ifCond .eq 10, 3) := by decide +kernel
theorem dX7_swim_20 : decode cX7_swim 20 = .ok (.aload_n 0, 1) := by decide +kernel
theorem dX7_swim_21 : decode cX7_swim 21 = .ok (.getfield 19, 3) := by decide +kernel
theorem dX7_swim_24 : decode cX7_swim 24 = .ok (.invokevirtual 151, 3) := by decide +kernel
theorem dX7_swim_27 : decode cX7_swim 27 = .ok (.iload_n 2, 1) := by decide +kernel
theorem dX7_swim_28 : decode cX7_swim 28 = .ok (.ireturn, 1) := by decide +kernel
theorem dX7_fill_0 : decode cX7_fill 0 = .ok (.iload_n 1, 1) := by decide +kernel
theorem dX7_fill_1 : decode cX7_fill 1 = .ok (.iconst 1, 1) := by decide +kernel
theorem dX7_fill_2 : decode cX7_fill 2 = .ok (.if_icmp .lt 10, 3) := by decide +kernel
theorem dX7_fill_5 : decode cX7_fill 5 = .ok (.iload_n 1, 1) := by decide +kernel
theorem dX7_fill_6 : decode cX7_fill 6 = .ok (.sipush 5000, 3) := by decide +kernel
theorem dX7_fill_9 : decode cX7_fill 9 = .ok (.if_icmp .le 13, 3) := by decide +kernel
theorem dX7_fill_12 : decode cX7_fill 12 = .ok (.new 26, 3) := by decide +kernel
theorem dX7_fill_15 : decode cX7_fill 15 = .ok (.dup, 1) := by decide +kernel
theorem dX7_fill_16 : decode cX7_fill 16 = .ok (.ldc 154, 2) := by decide +kernel
theorem dX7_fill_18 : decode cX7_fill 18 = .ok (.invokespecial 30, 3) := by decide +kernel
theorem dX7_fill_21 : decode cX7_fill 21 = .ok (.athrow, 1) := by decide +kernel
theorem dX7_fill_22 : decode cX7_fill 22 = .ok (.aload_n 0, 1) := by decide +kernel
theorem dX7_fill_23 : decode cX7_fill 23 = .ok (.getfield 19, 3) := by decide +kernel
theorem dX7_fill_26 : decode cX7_fill 26 = .ok (.iload_n 1, 1) := by decide +kernel
theorem dX7_fill_27 : decode cX7_fill 27 = .ok (.invokevirtual 156, 3) := by decide +kernel
theorem dX7_fill_30 : decode cX7_fill 30 = .ok (.aload_n 0, 1) := by decide +kernel
theorem dX7_fill_31 : decode cX7_fill 31 = .ok (.getfield 19, 3) := by decide +kernel
theorem dX7_fill_34 : decode cX7_fill 34 = .ok (.getfield 134, 3) := by decide +kernel
theorem dX7_fill_37 : decode cX7_fill 37 = .ok (.ireturn, 1) := by decide +kernel
theorem dX7_call_0 : decode cX7_call 0 = .ok (.aload_n 0, 1) := by decide +kernel
theorem dX7_call_1 : decode cX7_call 1 = .ok (.iload_n 1, 1) := by decide +kernel
theorem dX7_call_2 : decode cX7_call 2 = .ok (.invokevirtual 74, 3) := by decide +kernel
theorem dX7_call_5 : decode cX7_call 5 = .ok (.astore_n 3, 1) := by decide +kernel
theorem dX7_call_6 : decode cX7_call 6 = .ok (.iload_n 2, 1) := by decide +kernel
theorem dX7_call_7 : decode cX7_call 7 = .ok (.ifCond .lt 9, 3) := by decide +kernel
theorem dX7_call_10 : decode cX7_call 10 = .ok (.iload_n 2, 1) := by decide +kernel
theorem dX7_call_11 : decode cX7_call 11 = .ok (.bipush 9, 2) := by decide +kernel
theorem dX7_call_13 : decode cX7_call 13 = .ok (.if_icmp .le 13, 3) := by decide +kernel
theorem dX7_call_16 : decode cX7_call 16 = .ok (.new 26, 3) := by decide +kernel
theorem dX7_call_19 : decode cX7_call 19 = .ok (.dup, 1) := by decide +kernel
theorem dX7_call_20 : decode cX7_call 20 = .ok (.ldc 159, 2) := by decide +kernel
theorem dX7_call_22 : decode cX7_call 22 = .ok (.invokespecial 30, 3) := by decide +kernel
theorem dX7_call_25 : decode cX7_call 25 = .ok (.athrow, 1) := by decide +kernel
theorem dX7_call_26 : decode cX7_call 26 = .ok (.aload_n 0, 1) := by decide +kernel
theorem dX7_call_27 : decode cX7_call 27 = .ok (.getfield 19, 3) := by decide +kernel
theorem dX7_call_30 : decode cX7_call 30 = .ok (.getfield 161, 3) := by decide +kernel
theorem dX7_call_33 : decode cX7_call 33 = .ok (.invokevirtual 36, 3) := by decide +kernel
theorem dX7_call_36 : decode cX7_call 36 = .ok (.istore 4, 2) := by decide +kernel
theorem dX7_call_38 : decode cX7_call 38 = .ok (.iload 4, 2) := by decide +kernel
theorem dX7_call_40 : decode cX7_call 40 = .ok (.bipush 20, 2) := by decide +kernel
theorem dX7_call_42 : decode cX7_call 42 = .ok (.if_icmp .lt 13, 3) := by decide +kernel
theorem dX7_call_45 : decode cX7_call 45 = .ok (.new 40, 3) := by decide +kernel
theorem dX7_call_48 : decode cX7_call 48 = .ok (.dup, 1) := by decide +kernel
theorem dX7_call_49 : decode cX7_call 49 = .ok (.ldc 164, 2) := by decide +kernel
theorem dX7_call_51 : decode cX7_call 51 = .ok (.invokespecial 44, 3) := by decide +kernel
theorem dX7_call_54 : decode cX7_call 54 = .ok (.athrow, 1) := by decide +kernel
theorem dX7_call_55 : decode cX7_call 55 = .ok (.new 166, 3) := by decide +kernel
theorem dX7_call_58 : decode cX7_call 58 = .ok (.dup, 1) := by decide +kernel
theorem dX7_call_59 : decode cX7_call 59 = .ok (.aload_n 3, 1) := by decide +kernel
theorem dX7_call_60 : decode cX7_call 60 = .ok (.invokevirtual 168, 3) := by decide +kernel
theorem dX7_call_63 : decode cX7_call 63 = .ok (.iload_n 2, 1) := by decide +kernel
theorem dX7_call_64 : decode cX7_call 64 = .ok (.aload_n 0, 1) := by decide +kernel
theorem dX7_call_65 : decode cX7_call 65 = .ok (.getfield 19, 3) := by decide +kernel
theorem dX7_call_68 : decode cX7_call 68 = .ok (.getfield 172, 3) := by decide +kernel
theorem dX7_call_71 : decode cX7_call 71 = .ok (.invokespecial 175, 3) := by decide +kernel
theorem dX7_call_74 : decode cX7_call 74 = .ok (.astore 5, 2) := by decide +kernel
theorem dX7_call_76 : decode cX7_call 76 = .ok (.aload_n 0, 1) := by decide +kernel
theorem dX7_call_77 : decode cX7_call 77 = .ok (.getfield 19, 3) := by decide +kernel
theorem dX7_call_80 : decode cX7_call 80 = .ok (.getfield 161, 3) := by decide +kernel
theorem dX7_call_83 : decode cX7_call 83 = .ok (.aload 5, 2) := by decide +kernel
theorem dX7_call_85 : decode cX7_call 85 = .ok (.invokevirtual 50, 3) := by decide +kernel
theorem dX7_call_88 : decode cX7_call 88 = .ok (.pop, 1) := by decide +kernel
theorem dX7_call_89 : decode cX7_call 89 = .ok (.aload_n 0, 1) := by decide +kernel
theorem dX7_call_90 : decode cX7_call 90 = .ok (.getfield 23, 3) := by decide +kernel
theorem dX7_call_93 : decode cX7_call 93 = .ok (.getfield 161, 3) := by decide +kernel
theorem dX7_call_96 : decode cX7_call 96 = .ok (.aload 5, 2) := by decide +kernel
theorem dX7_call_98 : decode cX7_call 98 = .ok (.invokevirtual 50, 3) := by decide +kernel
theorem dX7_call_101 : decode cX7_call 101 = .ok (.pop, 1) := by decide +kernel
theorem dX7_call_102 : decode cX7_call 102 = .ok (.iload 4, 2) := by decide +kernel
theorem dX7_call_104 : decode cX7_call 104 = .ok (.ireturn, 1) := by decide +kernel
theorem dX7_pass_0 : decode cX7_pass 0 = .ok (.iload_n 1, 1) := by decide +kernel
theorem dX7_pass_1 : decode cX7_pass 1 = .ok (.iconst 1, 1) := by decide +kernel
theorem dX7_pass_2 : decode cX7_pass 2 = .ok (.if_icmp .lt 9, 3) := by decide +kernel
theorem dX7_pass_5 : decode cX7_pass 5 = .ok (.iload_n 1, 1) := by decide +kernel
theorem dX7_pass_6 : decode cX7_pass 6 = .ok (.bipush 100, 2) := by decide +kernel
theorem dX7_pass_8 : decode cX7_pass 8 = .ok (.if_icmp .le 13, 3) := by decide +kernel
theorem dX7_pass_11 : decode cX7_pass 11 = .ok (.new 26, 3) := by decide +kernel
theorem dX7_pass_14 : decode cX7_pass 14 = .ok (.dup, 1) := by decide +kernel
theorem dX7_pass_15 : decode cX7_pass 15 = .ok (.ldc 178, 2) := by decide +kernel
theorem dX7_pass_17 : decode cX7_pass 17 = .ok (.invokespecial 30, 3) := by decide +kernel
theorem dX7_pass_20 : decode cX7_pass 20 = .ok (.athrow, 1) := by decide +kernel
theorem dX7_pass_21 : decode cX7_pass 21 = .ok (.aload_n 0, 1) := by decide +kernel
theorem dX7_pass_22 : decode cX7_pass 22 = .ok (.getfield 19, 3) := by decide +kernel
theorem dX7_pass_25 : decode cX7_pass 25 = .ok (.getfield 172, 3) := by decide +kernel
theorem dX7_pass_28 : decode cX7_pass 28 = .ok (.iload_n 1, 1) := by decide +kernel
theorem dX7_pass_29 : decode cX7_pass 29 = .ok (.iadd, 1) := by decide +kernel
theorem dX7_pass_30 : decode cX7_pass 30 = .ok (.sipush 5000, 3) := by decide +kernel
theorem dX7_pass_33 : decode cX7_pass 33 = .ok (.if_icmp .le 13, 3) := by decide +kernel
theorem dX7_pass_36 : decode cX7_pass 36 = .ok (.new 40, 3) := by decide +kernel
theorem dX7_pass_39 : decode cX7_pass 39 = .ok (.dup, 1) := by decide +kernel
theorem dX7_pass_40 : decode cX7_pass 40 = .ok (.ldc 180, 2) := by decide +kernel
theorem dX7_pass_42 : decode cX7_pass 42 = .ok (.invokespecial 44, 3) := by decide +kernel
theorem dX7_pass_45 : decode cX7_pass 45 = .ok (.athrow, 1) := by decide +kernel
theorem dX7_pass_46 : decode cX7_pass 46 = .ok (.iconst 0, 1) := by decide +kernel
theorem dX7_pass_47 : decode cX7_pass 47 = .ok (.istore_n 2, 1) := by decide +kernel
theorem dX7_pass_48 : decode cX7_pass 48 = .ok (.iconst 0, 1) := by decide +kernel
theorem dX7_pass_49 : decode cX7_pass 49 = .ok (.istore_n 3, 1) := by decide +kernel
theorem dX7_pass_50 : decode cX7_pass 50 = .ok (.iload_n 3, 1) := by decide +kernel
theorem dX7_pass_51 : decode cX7_pass 51 = .ok (.iload_n 1, 1) := by decide +kernel
theorem dX7_pass_52 : decode cX7_pass 52 = .ok (.if_icmp .ge 19, 3) := by decide +kernel
theorem dX7_pass_55 : decode cX7_pass 55 = .ok (.iload_n 2, 1) := by decide +kernel
theorem dX7_pass_56 : decode cX7_pass 56 = .ok (.aload_n 0, 1) := by decide +kernel
theorem dX7_pass_57 : decode cX7_pass 57 = .ok (.getfield 19, 3) := by decide +kernel
theorem dX7_pass_60 : decode cX7_pass 60 = .ok (.invokevirtual 182, 3) := by decide +kernel
theorem dX7_pass_63 : decode cX7_pass 63 = .ok (.iadd, 1) := by decide +kernel
theorem dX7_pass_64 : decode cX7_pass 64 = .ok (.istore_n 2, 1) := by decide +kernel
theorem dX7_pass_65 : decode cX7_pass 65 = .ok (.iinc 3 1, 3) := by decide +kernel
theorem dX7_pass_68 : decode cX7_pass 68 = .ok (.goto (-18), 3) := by decide +kernel
theorem dX7_pass_71 : decode cX7_pass 71 = .ok (.iload_n 2, 1) := by decide +kernel
theorem dX7_pass_72 : decode cX7_pass 72 = .ok (.ireturn, 1) := by decide +kernel
theorem dX7_ofPump_0 : decode cX7_ofPump 0 = .ok (.aload_n 0, 1) := by decide +kernel
theorem dX7_ofPump_1 : decode cX7_ofPump 1 = .ok (.iload_n 1, 1) := by decide +kernel
theorem dX7_ofPump_2 : decode cX7_ofPump 2 = .ok (.invokevirtual 54, 3) := by decide +kernel
theorem dX7_ofPump_5 : decode cX7_ofPump 5 = .ok (.astore_n 3, 1) := by decide +kernel
theorem dX7_ofPump_6 : decode cX7_ofPump 6 = .ok (.iload_n 2, 1) := by decide +kernel
theorem dX7_ofPump_7 : decode cX7_ofPump 7 = .ok (.tableswitch 92 0 6 #[41, 46, 51, 56, 65, 78, 87], 41) := by decide +kernel
theorem dX7_ofPump_48 : decode cX7_ofPump 48 = .ok (.aload_n 3, 1) := by decide +kernel
theorem dX7_ofPump_49 : decode cX7_ofPump 49 = .ok (.getfield 185, 3) := by decide +kernel
theorem dX7_ofPump_52 : decode cX7_ofPump 52 = .ok (.ireturn, 1) := by decide +kernel
theorem dX7_ofPump_53 : decode cX7_ofPump 53 = .ok (.aload_n 3, 1) := by decide +kernel
theorem dX7_ofPump_54 : decode cX7_ofPump 54 = .ok (.getfield 127, 3) := by decide +kernel
theorem dX7_ofPump_57 : decode cX7_ofPump 57 = .ok (.ireturn, 1) := by decide +kernel
theorem dX7_ofPump_58 : decode cX7_ofPump 58 = .ok (.aload_n 3, 1) := by decide +kernel
theorem dX7_ofPump_59 : decode cX7_ofPump 59 = .ok (.getfield 188, 3) := by decide +kernel
theorem dX7_ofPump_62 : decode cX7_ofPump 62 = .ok (.ireturn, 1) := by decide +kernel
theorem dX7_ofPump_63 : decode cX7_ofPump 63 = .ok (.aload_n 0, 1) := by decide +kernel
theorem dX7_ofPump_64 : decode cX7_ofPump 64 = .ok (.getfield 19, 3) := by decide +kernel
theorem dX7_ofPump_67 : decode cX7_ofPump 67 = .ok (.aload_n 3, 1) := by decide +kernel
theorem dX7_ofPump_68 : decode cX7_ofPump 68 = .ok (.invokevirtual 191, 3) := by decide +kernel
theorem dX7_ofPump_71 : decode cX7_ofPump 71 = .ok (.ireturn, 1) := by decide +kernel
theorem dX7_ofPump_72 : decode cX7_ofPump 72 = .ok (.aload_n 3, 1) := by decide +kernel
theorem dX7_ofPump_73 : decode cX7_ofPump 73 = .ok (.getfield 122, 3) := by decide +kernel
theorem dX7_ofPump_76 : decode cX7_ofPump 76 = .ok (.ifCond .eq 7, 3) := by decide +kernel
theorem dX7_ofPump_79 : decode cX7_ofPump 79 = .ok (.iconst 1, 1) := by decide +kernel
theorem dX7_ofPump_80 : decode cX7_ofPump 80 = .ok (.goto 4, 3) := by decide +kernel
theorem dX7_ofPump_83 : decode cX7_ofPump 83 = .ok (.iconst 0, 1) := by decide +kernel
theorem dX7_ofPump_84 : decode cX7_ofPump 84 = .ok (.ireturn, 1) := by decide +kernel
theorem dX7_ofPump_85 : decode cX7_ofPump 85 = .ok (.aload_n 0, 1) := by decide +kernel
theorem dX7_ofPump_86 : decode cX7_ofPump 86 = .ok (.getfield 19, 3) := by decide +kernel
theorem dX7_ofPump_89 : decode cX7_ofPump 89 = .ok (.aload_n 3, 1) := by decide +kernel
theorem dX7_ofPump_90 : decode cX7_ofPump 90 = .ok (.invokevirtual 195, 3) := by decide +kernel
theorem dX7_ofPump_93 : decode cX7_ofPump 93 = .ok (.ireturn, 1) := by decide +kernel
theorem dX7_ofPump_94 : decode cX7_ofPump 94 = .ok (.aload_n 3, 1) := by decide +kernel
theorem dX7_ofPump_95 : decode cX7_ofPump 95 = .ok (.getfield 139, 3) := by decide +kernel
theorem dX7_ofPump_98 : decode cX7_ofPump 98 = .ok (.ireturn, 1) := by decide +kernel
theorem dX7_ofPump_99 : decode cX7_ofPump 99 = .ok (.new 26, 3) := by decide +kernel
theorem dX7_ofPump_102 : decode cX7_ofPump 102 = .ok (.dup, 1) := by decide +kernel
theorem dX7_ofPump_103 : decode cX7_ofPump 103 = .ok (.ldc 198, 2) := by decide +kernel
theorem dX7_ofPump_105 : decode cX7_ofPump 105 = .ok (.invokespecial 30, 3) := by decide +kernel
theorem dX7_ofPump_108 : decode cX7_ofPump 108 = .ok (.athrow, 1) := by decide +kernel
theorem dX7_ofJet_0 : decode cX7_ofJet 0 = .ok (.aload_n 0, 1) := by decide +kernel
theorem dX7_ofJet_1 : decode cX7_ofJet 1 = .ok (.iload_n 1, 1) := by decide +kernel
theorem dX7_ofJet_2 : decode cX7_ofJet 2 = .ok (.invokevirtual 103, 3) := by decide +kernel
theorem dX7_ofJet_5 : decode cX7_ofJet 5 = .ok (.astore_n 3, 1) := by decide +kernel
theorem dX7_ofJet_6 : decode cX7_ofJet 6 = .ok (.iload_n 2, 1) := by decide +kernel
theorem dX7_ofJet_7 : decode cX7_ofJet 7 = .ok (.tableswitch 156 0 11 #[61, 69, 74, 79, 84, 89, 94, 107, 112, 121, 134, 139], 61) := by decide +kernel
theorem dX7_ofJet_68 : decode cX7_ofJet 68 = .ok (.aload_n 3, 1) := by decide +kernel
theorem dX7_ofJet_69 : decode cX7_ofJet 69 = .ok (.getfield 200, 3) := by decide +kernel
theorem dX7_ofJet_72 : decode cX7_ofJet 72 = .ok (.getfield 204, 3) := by decide +kernel
theorem dX7_ofJet_75 : decode cX7_ofJet 75 = .ok (.ireturn, 1) := by decide +kernel
theorem dX7_ofJet_76 : decode cX7_ofJet 76 = .ok (.aload_n 3, 1) := by decide +kernel
theorem dX7_ofJet_77 : decode cX7_ofJet 77 = .ok (.getfield 207, 3) := by decide +kernel
theorem dX7_ofJet_80 : decode cX7_ofJet 80 = .ok (.ireturn, 1) := by decide +kernel
theorem dX7_ofJet_81 : decode cX7_ofJet 81 = .ok (.aload_n 3, 1) := by decide +kernel
theorem dX7_ofJet_82 : decode cX7_ofJet 82 = .ok (.getfield 210, 3) := by decide +kernel
theorem dX7_ofJet_85 : decode cX7_ofJet 85 = .ok (.ireturn, 1) := by decide +kernel
theorem dX7_ofJet_86 : decode cX7_ofJet 86 = .ok (.aload_n 3, 1) := by decide +kernel
theorem dX7_ofJet_87 : decode cX7_ofJet 87 = .ok (.getfield 213, 3) := by decide +kernel
theorem dX7_ofJet_90 : decode cX7_ofJet 90 = .ok (.ireturn, 1) := by decide +kernel
theorem dX7_ofJet_91 : decode cX7_ofJet 91 = .ok (.aload_n 3, 1) := by decide +kernel
theorem dX7_ofJet_92 : decode cX7_ofJet 92 = .ok (.getfield 115, 3) := by decide +kernel
theorem dX7_ofJet_95 : decode cX7_ofJet 95 = .ok (.ireturn, 1) := by decide +kernel
theorem dX7_ofJet_96 : decode cX7_ofJet 96 = .ok (.aload_n 3, 1) := by decide +kernel
theorem dX7_ofJet_97 : decode cX7_ofJet 97 = .ok (.getfield 216, 3) := by decide +kernel
theorem dX7_ofJet_100 : decode cX7_ofJet 100 = .ok (.ireturn, 1) := by decide +kernel
theorem dX7_ofJet_101 : decode cX7_ofJet 101 = .ok (.aload_n 3, 1) := by decide +kernel
theorem dX7_ofJet_102 : decode cX7_ofJet 102 = .ok (.getfield 145, 3) := by decide +kernel
theorem dX7_ofJet_105 : decode cX7_ofJet 105 = .ok (.ifCond .eq 7, 3) := by decide +kernel
theorem dX7_ofJet_108 : decode cX7_ofJet 108 = .ok (.iconst 1, 1) := by decide +kernel
theorem dX7_ofJet_109 : decode cX7_ofJet 109 = .ok (.goto 4, 3) := by decide +kernel
theorem dX7_ofJet_112 : decode cX7_ofJet 112 = .ok (.iconst 0, 1) := by decide +kernel
theorem dX7_ofJet_113 : decode cX7_ofJet 113 = .ok (.ireturn, 1) := by decide +kernel
theorem dX7_ofJet_114 : decode cX7_ofJet 114 = .ok (.aload_n 3, 1) := by decide +kernel
theorem dX7_ofJet_115 : decode cX7_ofJet 115 = .ok (.invokevirtual 219, 3) := by decide +kernel
theorem dX7_ofJet_118 : decode cX7_ofJet 118 = .ok (.ireturn, 1) := by decide +kernel
theorem dX7_ofJet_119 : decode cX7_ofJet 119 = .ok (.aload_n 0, 1) := by decide +kernel
theorem dX7_ofJet_120 : decode cX7_ofJet 120 = .ok (.getfield 19, 3) := by decide +kernel
theorem dX7_ofJet_123 : decode cX7_ofJet 123 = .ok (.aload_n 3, 1) := by decide +kernel
theorem dX7_ofJet_124 : decode cX7_ofJet 124 = .ok (.invokevirtual 222, 3) := by decide +kernel
theorem dX7_ofJet_127 : decode cX7_ofJet 127 = .ok (.ireturn, 1) := by decide +kernel
theorem dX7_ofJet_128 : decode cX7_ofJet 128 = .ok (.aload_n 3, 1) := by decide +kernel
theorem dX7_ofJet_129 : decode cX7_ofJet 129 = .ok (.getfield 142, 3) := by decide +kernel
theorem dX7_ofJet_132 : decode cX7_ofJet 132 = .ok (.ifCond .eq 7, 3) := by decide +kernel
theorem dX7_ofJet_135 : decode cX7_ofJet 135 = .ok (.iconst 1, 1) := by decide +kernel
theorem dX7_ofJet_136 : decode cX7_ofJet 136 = .ok (.goto 4, 3) := by decide +kernel
theorem dX7_ofJet_139 : decode cX7_ofJet 139 = .ok (.iconst 0, 1) := by decide +kernel
theorem dX7_ofJet_140 : decode cX7_ofJet 140 = .ok (.ireturn, 1) := by decide +kernel
theorem dX7_ofJet_141 : decode cX7_ofJet 141 = .ok (.aload_n 3, 1) := by decide +kernel
theorem dX7_ofJet_142 : decode cX7_ofJet 142 = .ok (.getfield 226, 3) := by decide +kernel
theorem dX7_ofJet_145 : decode cX7_ofJet 145 = .ok (.ireturn, 1) := by decide +kernel
theorem dX7_ofJet_146 : decode cX7_ofJet 146 = .ok (.aload_n 0, 1) := by decide +kernel
theorem dX7_ofJet_147 : decode cX7_ofJet 147 = .ok (.getfield 19, 3) := by decide +kernel
theorem dX7_ofJet_150 : decode cX7_ofJet 150 = .ok (.aload_n 3, 1) := by decide +kernel
theorem dX7_ofJet_151 : decode cX7_ofJet 151 = .ok (.aload_n 0, 1) := by decide +kernel
theorem dX7_ofJet_152 : decode cX7_ofJet 152 = .ok (.getfield 19, 3) := by decide +kernel
theorem dX7_ofJet_155 : decode cX7_ofJet 155 = .ok (.aload_n 3, 1) := by decide +kernel
theorem dX7_ofJet_156 : decode cX7_ofJet 156 = .ok (.invokevirtual 222, 3) := by decide +kernel
theorem dX7_ofJet_159 : decode cX7_ofJet 159 = .ok (.invokevirtual 229, 3) := by decide +kernel
theorem dX7_ofJet_162 : decode cX7_ofJet 162 = .ok (.ireturn, 1) := by decide +kernel
theorem dX7_ofJet_163 : decode cX7_ofJet 163 = .ok (.new 26, 3) := by decide +kernel
theorem dX7_ofJet_166 : decode cX7_ofJet 166 = .ok (.dup, 1) := by decide +kernel
theorem dX7_ofJet_167 : decode cX7_ofJet 167 = .ok (.ldc 233, 2) := by decide +kernel
theorem dX7_ofJet_169 : decode cX7_ofJet 169 = .ok (.invokespecial 30, 3) := by decide +kernel
theorem dX7_ofJet_172 : decode cX7_ofJet 172 = .ok (.athrow, 1) := by decide +kernel
theorem dX7_falls_0 : decode cX7_falls 0 = .ok (.iload_n 1, 1) := by decide +kernel
theorem dX7_falls_1 : decode cX7_falls 1 = .ok (.iconst 1, 1) := by decide +kernel
theorem dX7_falls_2 : decode cX7_falls 2 = .ok (.if_icmp .lt 9, 3) := by decide +kernel
theorem dX7_falls_5 : decode cX7_falls 5 = .ok (.iload_n 1, 1) := by decide +kernel
theorem dX7_falls_6 : decode cX7_falls 6 = .ok (.bipush 8, 2) := by decide +kernel
theorem dX7_falls_8 : decode cX7_falls 8 = .ok (.if_icmp .le 13, 3) := by decide +kernel
theorem dX7_falls_11 : decode cX7_falls 11 = .ok (.new 26, 3) := by decide +kernel
theorem dX7_falls_14 : decode cX7_falls 14 = .ok (.dup, 1) := by decide +kernel
theorem dX7_falls_15 : decode cX7_falls 15 = .ok (.ldc 235, 2) := by decide +kernel
theorem dX7_falls_17 : decode cX7_falls 17 = .ok (.invokespecial 30, 3) := by decide +kernel
theorem dX7_falls_20 : decode cX7_falls 20 = .ok (.athrow, 1) := by decide +kernel
theorem dX7_falls_21 : decode cX7_falls 21 = .ok (.aload_n 0, 1) := by decide +kernel
theorem dX7_falls_22 : decode cX7_falls 22 = .ok (.getfield 19, 3) := by decide +kernel
theorem dX7_falls_25 : decode cX7_falls 25 = .ok (.getfield 237, 3) := by decide +kernel
theorem dX7_falls_28 : decode cX7_falls 28 = .ok (.aload_n 0, 1) := by decide +kernel
theorem dX7_falls_29 : decode cX7_falls 29 = .ok (.getfield 19, 3) := by decide +kernel
theorem dX7_falls_32 : decode cX7_falls 32 = .ok (.getfield 172, 3) := by decide +kernel
theorem dX7_falls_35 : decode cX7_falls 35 = .ok (.iload_n 1, 1) := by decide +kernel
theorem dX7_falls_36 : decode cX7_falls 36 = .ok (.iadd, 1) := by decide +kernel
theorem dX7_falls_37 : decode cX7_falls 37 = .ok (.invokevirtual 241, 3) := by decide +kernel
theorem dX7_falls_40 : decode cX7_falls 40 = .ok (.ireturn, 1) := by decide +kernel
theorem dX7_open_0 : decode cX7_open 0 = .ok (.iload_n 1, 1) := by decide +kernel
theorem dX7_open_1 : decode cX7_open 1 = .ok (.ifCond .lt 17, 3) := by decide +kernel
theorem dX7_open_4 : decode cX7_open 4 = .ok (.iload_n 1, 1) := by decide +kernel
theorem dX7_open_5 : decode cX7_open 5 = .ok (.aload_n 0, 1) := by decide +kernel
theorem dX7_open_6 : decode cX7_open 6 = .ok (.getfield 19, 3) := by decide +kernel
theorem dX7_open_9 : decode cX7_open 9 = .ok (.getfield 161, 3) := by decide +kernel
theorem dX7_open_12 : decode cX7_open 12 = .ok (.invokevirtual 36, 3) := by decide +kernel
theorem dX7_open_15 : decode cX7_open 15 = .ok (.if_icmp .lt 13, 3) := by decide +kernel
theorem dX7_open_18 : decode cX7_open 18 = .ok (.new 247, 3) := by decide +kernel
theorem dX7_open_21 : decode cX7_open 21 = .ok (.dup, 1) := by decide +kernel
theorem dX7_open_22 : decode cX7_open 22 = .ok (.ldc 249, 2) := by decide +kernel
theorem dX7_open_24 : decode cX7_open 24 = .ok (.invokespecial 251, 3) := by decide +kernel
theorem dX7_open_27 : decode cX7_open 27 = .ok (.athrow, 1) := by decide +kernel
theorem dX7_open_28 : decode cX7_open 28 = .ok (.aload_n 0, 1) := by decide +kernel
theorem dX7_open_29 : decode cX7_open 29 = .ok (.getfield 19, 3) := by decide +kernel
theorem dX7_open_32 : decode cX7_open 32 = .ok (.getfield 161, 3) := by decide +kernel
theorem dX7_open_35 : decode cX7_open 35 = .ok (.iload_n 1, 1) := by decide +kernel
theorem dX7_open_36 : decode cX7_open 36 = .ok (.invokevirtual 252, 3) := by decide +kernel
theorem dX7_open_39 : decode cX7_open 39 = .ok (.checkcast 166, 3) := by decide +kernel
theorem dX7_open_42 : decode cX7_open 42 = .ok (.aload_n 0, 1) := by decide +kernel
theorem dX7_open_43 : decode cX7_open 43 = .ok (.getfield 19, 3) := by decide +kernel
theorem dX7_open_46 : decode cX7_open 46 = .ok (.getfield 172, 3) := by decide +kernel
theorem dX7_open_49 : decode cX7_open 49 = .ok (.invokevirtual 256, 3) := by decide +kernel
theorem dX7_open_52 : decode cX7_open 52 = .ok (.ireturn, 1) := by decide +kernel
theorem dX7_many_0 : decode cX7_many 0 = .ok (.iload_n 1, 1) := by decide +kernel
theorem dX7_many_1 : decode cX7_many 1 = .ok (.tableswitch 227 0 15 #[79, 87, 98, 109, 117, 128, 136, 147, 155, 163, 171, 179, 187, 195, 203, 211], 79) := by decide +kernel
theorem dX7_many_80 : decode cX7_many 80 = .ok (.aload_n 0, 1) := by decide +kernel
theorem dX7_many_81 : decode cX7_many 81 = .ok (.getfield 19, 3) := by decide +kernel
theorem dX7_many_84 : decode cX7_many 84 = .ok (.getfield 172, 3) := by decide +kernel
theorem dX7_many_87 : decode cX7_many 87 = .ok (.ireturn, 1) := by decide +kernel
theorem dX7_many_88 : decode cX7_many 88 = .ok (.aload_n 0, 1) := by decide +kernel
theorem dX7_many_89 : decode cX7_many 89 = .ok (.getfield 19, 3) := by decide +kernel
theorem dX7_many_92 : decode cX7_many 92 = .ok (.getfield 33, 3) := by decide +kernel
theorem dX7_many_95 : decode cX7_many 95 = .ok (.invokevirtual 36, 3) := by decide +kernel
theorem dX7_many_98 : decode cX7_many 98 = .ok (.ireturn, 1) := by decide +kernel
theorem dX7_many_99 : decode cX7_many 99 = .ok (.aload_n 0, 1) := by decide +kernel
theorem dX7_many_100 : decode cX7_many 100 = .ok (.getfield 19, 3) := by decide +kernel
theorem dX7_many_103 : decode cX7_many 103 = .ok (.getfield 60, 3) := by decide +kernel
theorem dX7_many_106 : decode cX7_many 106 = .ok (.invokevirtual 36, 3) := by decide +kernel
theorem dX7_many_109 : decode cX7_many 109 = .ok (.ireturn, 1) := by decide +kernel
theorem dX7_many_110 : decode cX7_many 110 = .ok (.aload_n 0, 1) := by decide +kernel
theorem dX7_many_111 : decode cX7_many 111 = .ok (.getfield 10, 3) := by decide +kernel
theorem dX7_many_114 : decode cX7_many 114 = .ok (.invokevirtual 36, 3) := by decide +kernel
theorem dX7_many_117 : decode cX7_many 117 = .ok (.ireturn, 1) := by decide +kernel
theorem dX7_many_118 : decode cX7_many 118 = .ok (.aload_n 0, 1) := by decide +kernel
theorem dX7_many_119 : decode cX7_many 119 = .ok (.getfield 19, 3) := by decide +kernel
theorem dX7_many_122 : decode cX7_many 122 = .ok (.getfield 161, 3) := by decide +kernel
theorem dX7_many_125 : decode cX7_many 125 = .ok (.invokevirtual 36, 3) := by decide +kernel
theorem dX7_many_128 : decode cX7_many 128 = .ok (.ireturn, 1) := by decide +kernel
theorem dX7_many_129 : decode cX7_many 129 = .ok (.aload_n 0, 1) := by decide +kernel
theorem dX7_many_130 : decode cX7_many 130 = .ok (.getfield 19, 3) := by decide +kernel
theorem dX7_many_133 : decode cX7_many 133 = .ok (.getfield 134, 3) := by decide +kernel
theorem dX7_many_136 : decode cX7_many 136 = .ok (.ireturn, 1) := by decide +kernel
theorem dX7_many_137 : decode cX7_many 137 = .ok (.aload_n 0, 1) := by decide +kernel
theorem dX7_many_138 : decode cX7_many 138 = .ok (.getfield 19, 3) := by decide +kernel
theorem dX7_many_141 : decode cX7_many 141 = .ok (.getfield 237, 3) := by decide +kernel
theorem dX7_many_144 : decode cX7_many 144 = .ok (.invokevirtual 259, 3) := by decide +kernel
theorem dX7_many_147 : decode cX7_many 147 = .ok (.ireturn, 1) := by decide +kernel
theorem dX7_many_148 : decode cX7_many 148 = .ok (.aload_n 0, 1) := by decide +kernel
theorem dX7_many_149 : decode cX7_many 149 = .ok (.getfield 19, 3) := by decide +kernel
theorem dX7_many_152 : decode cX7_many 152 = .ok (.getfield 262, 3) := by decide +kernel
theorem dX7_many_155 : decode cX7_many 155 = .ok (.ireturn, 1) := by decide +kernel
theorem dX7_many_156 : decode cX7_many 156 = .ok (.aload_n 0, 1) := by decide +kernel
theorem dX7_many_157 : decode cX7_many 157 = .ok (.getfield 19, 3) := by decide +kernel
theorem dX7_many_160 : decode cX7_many 160 = .ok (.getfield 265, 3) := by decide +kernel
theorem dX7_many_163 : decode cX7_many 163 = .ok (.ireturn, 1) := by decide +kernel
theorem dX7_many_164 : decode cX7_many 164 = .ok (.aload_n 0, 1) := by decide +kernel
theorem dX7_many_165 : decode cX7_many 165 = .ok (.getfield 19, 3) := by decide +kernel
theorem dX7_many_168 : decode cX7_many 168 = .ok (.getfield 268, 3) := by decide +kernel
theorem dX7_many_171 : decode cX7_many 171 = .ok (.ireturn, 1) := by decide +kernel
theorem dX7_many_172 : decode cX7_many 172 = .ok (.aload_n 0, 1) := by decide +kernel
theorem dX7_many_173 : decode cX7_many 173 = .ok (.getfield 19, 3) := by decide +kernel
theorem dX7_many_176 : decode cX7_many 176 = .ok (.getfield 271, 3) := by decide +kernel
theorem dX7_many_179 : decode cX7_many 179 = .ok (.ireturn, 1) := by decide +kernel
theorem dX7_many_180 : decode cX7_many 180 = .ok (.aload_n 0, 1) := by decide +kernel
theorem dX7_many_181 : decode cX7_many 181 = .ok (.getfield 19, 3) := by decide +kernel
theorem dX7_many_184 : decode cX7_many 184 = .ok (.getfield 274, 3) := by decide +kernel
theorem dX7_many_187 : decode cX7_many 187 = .ok (.ireturn, 1) := by decide +kernel
theorem dX7_many_188 : decode cX7_many 188 = .ok (.aload_n 0, 1) := by decide +kernel
theorem dX7_many_189 : decode cX7_many 189 = .ok (.getfield 19, 3) := by decide +kernel
theorem dX7_many_192 : decode cX7_many 192 = .ok (.getfield 277, 3) := by decide +kernel
theorem dX7_many_195 : decode cX7_many 195 = .ok (.ireturn, 1) := by decide +kernel
theorem dX7_many_196 : decode cX7_many 196 = .ok (.aload_n 0, 1) := by decide +kernel
theorem dX7_many_197 : decode cX7_many 197 = .ok (.getfield 19, 3) := by decide +kernel
theorem dX7_many_200 : decode cX7_many 200 = .ok (.invokevirtual 280, 3) := by decide +kernel
theorem dX7_many_203 : decode cX7_many 203 = .ok (.ireturn, 1) := by decide +kernel
theorem dX7_many_204 : decode cX7_many 204 = .ok (.aload_n 0, 1) := by decide +kernel
theorem dX7_many_205 : decode cX7_many 205 = .ok (.getfield 19, 3) := by decide +kernel
theorem dX7_many_208 : decode cX7_many 208 = .ok (.invokevirtual 283, 3) := by decide +kernel
theorem dX7_many_211 : decode cX7_many 211 = .ok (.ireturn, 1) := by decide +kernel
theorem dX7_many_212 : decode cX7_many 212 = .ok (.aload_n 0, 1) := by decide +kernel
theorem dX7_many_213 : decode cX7_many 213 = .ok (.getfield 19, 3) := by decide +kernel
theorem dX7_many_216 : decode cX7_many 216 = .ok (.getfield 109, 3) := by decide +kernel
theorem dX7_many_219 : decode cX7_many 219 = .ok (.ifCond .eq 7, 3) := by decide +kernel
theorem dX7_many_222 : decode cX7_many 222 = .ok (.iconst 1, 1) := by decide +kernel
theorem dX7_many_223 : decode cX7_many 223 = .ok (.goto 4, 3) := by decide +kernel
theorem dX7_many_226 : decode cX7_many 226 = .ok (.iconst 0, 1) := by decide +kernel
theorem dX7_many_227 : decode cX7_many 227 = .ok (.ireturn, 1) := by decide +kernel
theorem dX7_many_228 : decode cX7_many 228 = .ok (.new 26, 3) := by decide +kernel
theorem dX7_many_231 : decode cX7_many 231 = .ok (.dup, 1) := by decide +kernel
theorem dX7_many_232 : decode cX7_many 232 = .ok (.ldc_w 286, 3) := by decide +kernel
theorem dX7_many_235 : decode cX7_many 235 = .ok (.invokespecial 30, 3) := by decide +kernel
theorem dX7_many_238 : decode cX7_many 238 = .ok (.athrow, 1) := by decide +kernel
theorem dX7_meanHeight_0 : decode cX7_meanHeight 0 = .ok (.aload_n 0, 1) := by decide +kernel
theorem dX7_meanHeight_1 : decode cX7_meanHeight 1 = .ok (.getfield 19, 3) := by decide +kernel
theorem dX7_meanHeight_4 : decode cX7_meanHeight 4 = .ok (.getfield 60, 3) := by decide +kernel
theorem dX7_meanHeight_7 : decode cX7_meanHeight 7 = .ok (.invokevirtual 36, 3) := by decide +kernel
theorem dX7_meanHeight_10 : decode cX7_meanHeight 10 = .ok (.istore_n 1, 1) := by decide +kernel
theorem dX7_meanHeight_11 : decode cX7_meanHeight 11 = .ok (.iload_n 1, 1) := by decide +kernel
theorem dX7_meanHeight_12 : decode cX7_meanHeight 12 = .ok (.ifCond .ne 5, 3) := by decide +kernel
theorem dX7_meanHeight_15 : decode cX7_meanHeight 15 = .ok (.dconst 0, 1) := by decide +kernel
theorem dX7_meanHeight_16 : decode cX7_meanHeight 16 = .ok (.dreturn, 1) := by decide +kernel
theorem dX7_meanHeight_17 : decode cX7_meanHeight 17 = .ok (.aload_n 0, 1) := by decide +kernel
theorem dX7_meanHeight_18 : decode cX7_meanHeight 18 = .ok (.getfield 19, 3) := by decide +kernel
theorem dX7_meanHeight_21 : decode cX7_meanHeight 21 = .ok (.invokevirtual 288, 3) := by decide +kernel
theorem dX7_meanHeight_24 : decode cX7_meanHeight 24 = .ok (.i2d, 1) := by decide +kernel
theorem dX7_meanHeight_25 : decode cX7_meanHeight 25 = .ok (.iload_n 1, 1) := by decide +kernel
theorem dX7_meanHeight_26 : decode cX7_meanHeight 26 = .ok (.i2d, 1) := by decide +kernel
theorem dX7_meanHeight_27 : decode cX7_meanHeight 27 = .ok (.ddiv, 1) := by decide +kernel
theorem dX7_meanHeight_28 : decode cX7_meanHeight 28 = .ok (.dreturn, 1) := by decide +kernel
theorem dX7_heightIn_0 : decode cX7_heightIn 0 = .ok (.aload_n 0, 1) := by decide +kernel
theorem dX7_heightIn_1 : decode cX7_heightIn 1 = .ok (.iload_n 1, 1) := by decide +kernel
theorem dX7_heightIn_2 : decode cX7_heightIn 2 = .ok (.invokevirtual 103, 3) := by decide +kernel
theorem dX7_heightIn_5 : decode cX7_heightIn 5 = .ok (.pop, 1) := by decide +kernel
theorem dX7_heightIn_6 : decode cX7_heightIn 6 = .ok (.iload_n 2, 1) := by decide +kernel
theorem dX7_heightIn_7 : decode cX7_heightIn 7 = .ok (.iconst 1, 1) := by decide +kernel
theorem dX7_heightIn_8 : decode cX7_heightIn 8 = .ok (.if_icmp .lt 9, 3) := by decide +kernel
theorem dX7_heightIn_11 : decode cX7_heightIn 11 = .ok (.iload_n 2, 1) := by decide +kernel
theorem dX7_heightIn_12 : decode cX7_heightIn 12 = .ok (.bipush 40, 2) := by decide +kernel
theorem dX7_heightIn_14 : decode cX7_heightIn 14 = .ok (.if_icmp .le 14, 3) := by decide +kernel
theorem dX7_heightIn_17 : decode cX7_heightIn 17 = .ok (.new 26, 3) := by decide +kernel
theorem dX7_heightIn_20 : decode cX7_heightIn 20 = .ok (.dup, 1) := by decide +kernel
theorem dX7_heightIn_21 : decode cX7_heightIn 21 = .ok (.ldc_w 291, 3) := by decide +kernel
theorem dX7_heightIn_24 : decode cX7_heightIn 24 = .ok (.invokespecial 30, 3) := by decide +kernel
theorem dX7_heightIn_27 : decode cX7_heightIn 27 = .ok (.athrow, 1) := by decide +kernel
theorem dX7_heightIn_28 : decode cX7_heightIn 28 = .ok (.aload_n 0, 1) := by decide +kernel
theorem dX7_heightIn_29 : decode cX7_heightIn 29 = .ok (.getfield 23, 3) := by decide +kernel
theorem dX7_heightIn_32 : decode cX7_heightIn 32 = .ok (.aload_n 0, 1) := by decide +kernel
theorem dX7_heightIn_33 : decode cX7_heightIn 33 = .ok (.getfield 19, 3) := by decide +kernel
theorem dX7_heightIn_36 : decode cX7_heightIn 36 = .ok (.invokevirtual 293, 3) := by decide +kernel
theorem dX7_heightIn_39 : decode cX7_heightIn 39 = .ok (.iconst 0, 1) := by decide +kernel
theorem dX7_heightIn_40 : decode cX7_heightIn 40 = .ok (.istore_n 3, 1) := by decide +kernel
theorem dX7_heightIn_41 : decode cX7_heightIn 41 = .ok (.iload_n 3, 1) := by decide +kernel
theorem dX7_heightIn_42 : decode cX7_heightIn 42 = .ok (.iload_n 2, 1) := by decide +kernel
theorem dX7_heightIn_43 : decode cX7_heightIn 43 = .ok (.if_icmp .ge 17, 3) := by decide +kernel
theorem dX7_heightIn_46 : decode cX7_heightIn 46 = .ok (.aload_n 0, 1) := by decide +kernel
theorem dX7_heightIn_47 : decode cX7_heightIn 47 = .ok (.getfield 23, 3) := by decide +kernel
theorem dX7_heightIn_50 : decode cX7_heightIn 50 = .ok (.invokevirtual 182, 3) := by decide +kernel
theorem dX7_heightIn_53 : decode cX7_heightIn 53 = .ok (.pop, 1) := by decide +kernel
theorem dX7_heightIn_54 : decode cX7_heightIn 54 = .ok (.iinc 3 1, 3) := by decide +kernel
theorem dX7_heightIn_57 : decode cX7_heightIn 57 = .ok (.goto (-16), 3) := by decide +kernel
theorem dX7_heightIn_60 : decode cX7_heightIn 60 = .ok (.aload_n 0, 1) := by decide +kernel
theorem dX7_heightIn_61 : decode cX7_heightIn 61 = .ok (.getfield 23, 3) := by decide +kernel
theorem dX7_heightIn_64 : decode cX7_heightIn 64 = .ok (.iload_n 1, 1) := by decide +kernel
theorem dX7_heightIn_65 : decode cX7_heightIn 65 = .ok (.invokevirtual 297, 3) := by decide +kernel
theorem dX7_heightIn_68 : decode cX7_heightIn 68 = .ok (.ireturn, 1) := by decide +kernel
theorem dX7_settingFor_0 : decode cX7_settingFor 0 = .ok (.aload_n 0, 1) := by decide +kernel
theorem dX7_settingFor_1 : decode cX7_settingFor 1 = .ok (.iload_n 1, 1) := by decide +kernel
theorem dX7_settingFor_2 : decode cX7_settingFor 2 = .ok (.invokevirtual 103, 3) := by decide +kernel
theorem dX7_settingFor_5 : decode cX7_settingFor 5 = .ok (.astore_n 3, 1) := by decide +kernel
theorem dX7_settingFor_6 : decode cX7_settingFor 6 = .ok (.iload_n 2, 1) := by decide +kernel
theorem dX7_settingFor_7 : decode cX7_settingFor 7 = .ok (.iconst 1, 1) := by decide +kernel
theorem dX7_settingFor_8 : decode cX7_settingFor 8 = .ok (.if_icmp .lt 9, 3) := by decide +kernel
theorem dX7_settingFor_11 : decode cX7_settingFor 11 = .ok (.iload_n 2, 1) := by decide +kernel
theorem dX7_settingFor_12 : decode cX7_settingFor 12 = .ok (.bipush 60, 2) := by decide +kernel
theorem dX7_settingFor_14 : decode cX7_settingFor 14 = .ok (.if_icmp .le 14, 3) := by decide +kernel
theorem dX7_settingFor_17 : decode cX7_settingFor 17 = .ok (.new 26, 3) := by decide +kernel
theorem dX7_settingFor_20 : decode cX7_settingFor 20 = .ok (.dup, 1) := by decide +kernel
theorem dX7_settingFor_21 : decode cX7_settingFor 21 = .ok (.ldc_w 300, 3) := by decide +kernel
theorem dX7_settingFor_24 : decode cX7_settingFor 24 = .ok (.invokespecial 30, 3) := by decide +kernel
theorem dX7_settingFor_27 : decode cX7_settingFor 27 = .ok (.athrow, 1) := by decide +kernel
theorem dX7_settingFor_28 : decode cX7_settingFor 28 = .ok (.aload_n 0, 1) := by decide +kernel
theorem dX7_settingFor_29 : decode cX7_settingFor 29 = .ok (.getfield 19, 3) := by decide +kernel
theorem dX7_settingFor_32 : decode cX7_settingFor 32 = .ok (.aload_n 3, 1) := by decide +kernel
theorem dX7_settingFor_33 : decode cX7_settingFor 33 = .ok (.getfield 200, 3) := by decide +kernel
theorem dX7_settingFor_36 : decode cX7_settingFor 36 = .ok (.invokevirtual 302, 3) := by decide +kernel
theorem dX7_settingFor_39 : decode cX7_settingFor 39 = .ok (.istore 4, 2) := by decide +kernel
theorem dX7_settingFor_41 : decode cX7_settingFor 41 = .ok (.iconst 0, 1) := by decide +kernel
theorem dX7_settingFor_42 : decode cX7_settingFor 42 = .ok (.istore 5, 2) := by decide +kernel
theorem dX7_settingFor_44 : decode cX7_settingFor 44 = .ok (.iload 5, 2) := by decide +kernel
theorem dX7_settingFor_46 : decode cX7_settingFor 46 = .ok (.bipush 10, 2) := by decide +kernel
theorem dX7_settingFor_48 : decode cX7_settingFor 48 = .ok (.if_icmp .gt 41, 3) := by decide +kernel
theorem dX7_settingFor_51 : decode cX7_settingFor 51 = .ok (.iload 5, 2) := by decide +kernel
theorem dX7_settingFor_53 : decode cX7_settingFor 53 = .ok (.aload_n 3, 1) := by decide +kernel
theorem dX7_settingFor_54 : decode cX7_settingFor 54 = .ok (.getfield 200, 3) := by decide +kernel
theorem dX7_settingFor_57 : decode cX7_settingFor 57 = .ok (.getfield 185, 3) := by decide +kernel
theorem dX7_settingFor_60 : decode cX7_settingFor 60 = .ok (.iload 4, 2) := by decide +kernel
theorem dX7_settingFor_62 : decode cX7_settingFor 62 = .ok (.invokestatic 305, 3) := by decide +kernel
theorem dX7_settingFor_65 : decode cX7_settingFor 65 = .ok (.istore 6, 2) := by decide +kernel
theorem dX7_settingFor_67 : decode cX7_settingFor 67 = .ok (.iload 6, 2) := by decide +kernel
theorem dX7_settingFor_69 : decode cX7_settingFor 69 = .ok (.aload_n 3, 1) := by decide +kernel
theorem dX7_settingFor_70 : decode cX7_settingFor 70 = .ok (.getfield 115, 3) := by decide +kernel
theorem dX7_settingFor_73 : decode cX7_settingFor 73 = .ok (.invokestatic 309, 3) := by decide +kernel
theorem dX7_settingFor_76 : decode cX7_settingFor 76 = .ok (.iload_n 2, 1) := by decide +kernel
theorem dX7_settingFor_77 : decode cX7_settingFor 77 = .ok (.if_icmp .lt 6, 3) := by decide +kernel
theorem dX7_settingFor_80 : decode cX7_settingFor 80 = .ok (.iload 5, 2) := by decide +kernel
theorem dX7_settingFor_82 : decode cX7_settingFor 82 = .ok (.ireturn, 1) := by decide +kernel
theorem dX7_settingFor_83 : decode cX7_settingFor 83 = .ok (.iinc 5 1, 3) := by decide +kernel
theorem dX7_settingFor_86 : decode cX7_settingFor 86 = .ok (.goto (-42), 3) := by decide +kernel
theorem dX7_settingFor_89 : decode cX7_settingFor 89 = .ok (.iconst (-1), 1) := by decide +kernel
theorem dX7_settingFor_90 : decode cX7_settingFor 90 = .ok (.ireturn, 1) := by decide +kernel
theorem dX7_leadFor_0 : decode cX7_leadFor 0 = .ok (.aload_n 0, 1) := by decide +kernel
theorem dX7_leadFor_1 : decode cX7_leadFor 1 = .ok (.iload_n 1, 1) := by decide +kernel
theorem dX7_leadFor_2 : decode cX7_leadFor 2 = .ok (.invokevirtual 103, 3) := by decide +kernel
theorem dX7_leadFor_5 : decode cX7_leadFor 5 = .ok (.getfield 200, 3) := by decide +kernel
theorem dX7_leadFor_8 : decode cX7_leadFor 8 = .ok (.astore_n 3, 1) := by decide +kernel
theorem dX7_leadFor_9 : decode cX7_leadFor 9 = .ok (.aload_n 0, 1) := by decide +kernel
theorem dX7_leadFor_10 : decode cX7_leadFor 10 = .ok (.iload_n 1, 1) := by decide +kernel
theorem dX7_leadFor_11 : decode cX7_leadFor 11 = .ok (.iload_n 2, 1) := by decide +kernel
theorem dX7_leadFor_12 : decode cX7_leadFor 12 = .ok (.invokevirtual 313, 3) := by decide +kernel
theorem dX7_leadFor_15 : decode cX7_leadFor 15 = .ok (.istore 4, 2) := by decide +kernel
theorem dX7_leadFor_17 : decode cX7_leadFor 17 = .ok (.iload 4, 2) := by decide +kernel
theorem dX7_leadFor_19 : decode cX7_leadFor 19 = .ok (.iconst (-1), 1) := by decide +kernel
theorem dX7_leadFor_20 : decode cX7_leadFor 20 = .ok (.if_icmp .eq 10, 3) := by decide +kernel
theorem dX7_leadFor_23 : decode cX7_leadFor 23 = .ok (.aload_n 3, 1) := by decide +kernel
theorem dX7_leadFor_24 : decode cX7_leadFor 24 = .ok (.getfield 122, 3) := by decide +kernel
theorem dX7_leadFor_27 : decode cX7_leadFor 27 = .ok (.ifCond .eq 5, 3) := by decide +kernel
theorem dX7_leadFor_30 : decode cX7_leadFor 30 = .ok (.iconst (-1), 1) := by decide +kernel
theorem dX7_leadFor_31 : decode cX7_leadFor 31 = .ok (.ireturn, 1) := by decide +kernel
theorem dX7_leadFor_32 : decode cX7_leadFor 32 = .ok (.aload_n 0, 1) := by decide +kernel
theorem dX7_leadFor_33 : decode cX7_leadFor 33 = .ok (.getfield 23, 3) := by decide +kernel
theorem dX7_leadFor_36 : decode cX7_leadFor 36 = .ok (.aload_n 0, 1) := by decide +kernel
theorem dX7_leadFor_37 : decode cX7_leadFor 37 = .ok (.getfield 19, 3) := by decide +kernel
theorem dX7_leadFor_40 : decode cX7_leadFor 40 = .ok (.invokevirtual 293, 3) := by decide +kernel
theorem dX7_leadFor_43 : decode cX7_leadFor 43 = .ok (.aload_n 0, 1) := by decide +kernel
theorem dX7_leadFor_44 : decode cX7_leadFor 44 = .ok (.getfield 23, 3) := by decide +kernel
theorem dX7_leadFor_47 : decode cX7_leadFor 47 = .ok (.aload_n 3, 1) := by decide +kernel
theorem dX7_leadFor_48 : decode cX7_leadFor 48 = .ok (.getfield 204, 3) := by decide +kernel
theorem dX7_leadFor_51 : decode cX7_leadFor 51 = .ok (.iload 4, 2) := by decide +kernel
theorem dX7_leadFor_53 : decode cX7_leadFor 53 = .ok (.invokevirtual 316, 3) := by decide +kernel
theorem dX7_leadFor_56 : decode cX7_leadFor 56 = .ok (.iconst 0, 1) := by decide +kernel
theorem dX7_leadFor_57 : decode cX7_leadFor 57 = .ok (.istore 5, 2) := by decide +kernel
theorem dX7_leadFor_59 : decode cX7_leadFor 59 = .ok (.iload 5, 2) := by decide +kernel
theorem dX7_leadFor_61 : decode cX7_leadFor 61 = .ok (.bipush 30, 2) := by decide +kernel
theorem dX7_leadFor_63 : decode cX7_leadFor 63 = .ok (.if_icmp .gt 32, 3) := by decide +kernel
theorem dX7_leadFor_66 : decode cX7_leadFor 66 = .ok (.aload_n 0, 1) := by decide +kernel
theorem dX7_leadFor_67 : decode cX7_leadFor 67 = .ok (.getfield 23, 3) := by decide +kernel
theorem dX7_leadFor_70 : decode cX7_leadFor 70 = .ok (.iload_n 1, 1) := by decide +kernel
theorem dX7_leadFor_71 : decode cX7_leadFor 71 = .ok (.invokevirtual 297, 3) := by decide +kernel
theorem dX7_leadFor_74 : decode cX7_leadFor 74 = .ok (.iload_n 2, 1) := by decide +kernel
theorem dX7_leadFor_75 : decode cX7_leadFor 75 = .ok (.if_icmp .lt 6, 3) := by decide +kernel
theorem dX7_leadFor_78 : decode cX7_leadFor 78 = .ok (.iload 5, 2) := by decide +kernel
theorem dX7_leadFor_80 : decode cX7_leadFor 80 = .ok (.ireturn, 1) := by decide +kernel
theorem dX7_leadFor_81 : decode cX7_leadFor 81 = .ok (.aload_n 0, 1) := by decide +kernel
theorem dX7_leadFor_82 : decode cX7_leadFor 82 = .ok (.getfield 23, 3) := by decide +kernel
theorem dX7_leadFor_85 : decode cX7_leadFor 85 = .ok (.invokevirtual 182, 3) := by decide +kernel
theorem dX7_leadFor_88 : decode cX7_leadFor 88 = .ok (.pop, 1) := by decide +kernel
theorem dX7_leadFor_89 : decode cX7_leadFor 89 = .ok (.iinc 5 1, 3) := by decide +kernel
theorem dX7_leadFor_92 : decode cX7_leadFor 92 = .ok (.goto (-33), 3) := by decide +kernel
theorem dX7_leadFor_95 : decode cX7_leadFor 95 = .ok (.iconst (-1), 1) := by decide +kernel
theorem dX7_leadFor_96 : decode cX7_leadFor 96 = .ok (.ireturn, 1) := by decide +kernel
theorem dX7_would_0 : decode cX7_would 0 = .ok (.iload_n 1, 1) := by decide +kernel
theorem dX7_would_1 : decode cX7_would 1 = .ok (.iconst 1, 1) := by decide +kernel
theorem dX7_would_2 : decode cX7_would 2 = .ok (.if_icmp .lt 18, 3) := by decide +kernel
theorem dX7_would_5 : decode cX7_would 5 = .ok (.iload_n 1, 1) := by decide +kernel
theorem dX7_would_6 : decode cX7_would 6 = .ok (.bipush 60, 2) := by decide +kernel
theorem dX7_would_8 : decode cX7_would 8 = .ok (.if_icmp .gt 12, 3) := by decide +kernel
theorem dX7_would_11 : decode cX7_would 11 = .ok (.iload_n 2, 1) := by decide +kernel
theorem dX7_would_12 : decode cX7_would 12 = .ok (.ifCond .lt 8, 3) := by decide +kernel
theorem dX7_would_15 : decode cX7_would 15 = .ok (.iload_n 2, 1) := by decide +kernel
theorem dX7_would_16 : decode cX7_would 16 = .ok (.iconst 1, 1) := by decide +kernel
theorem dX7_would_17 : decode cX7_would 17 = .ok (.if_icmp .le 14, 3) := by decide +kernel
theorem dX7_would_20 : decode cX7_would 20 = .ok (.new 26, 3) := by decide +kernel
theorem dX7_would_23 : decode cX7_would 23 = .ok (.dup, 1) := by decide +kernel
theorem dX7_would_24 : decode cX7_would 24 = .ok (.ldc_w 319, 3) := by decide +kernel
theorem dX7_would_27 : decode cX7_would 27 = .ok (.invokespecial 30, 3) := by decide +kernel
theorem dX7_would_30 : decode cX7_would 30 = .ok (.athrow, 1) := by decide +kernel
theorem dX7_would_31 : decode cX7_would 31 = .ok (.aload_n 0, 1) := by decide +kernel
theorem dX7_would_32 : decode cX7_would 32 = .ok (.getfield 23, 3) := by decide +kernel
theorem dX7_would_35 : decode cX7_would 35 = .ok (.aload_n 0, 1) := by decide +kernel
theorem dX7_would_36 : decode cX7_would 36 = .ok (.getfield 19, 3) := by decide +kernel
theorem dX7_would_39 : decode cX7_would 39 = .ok (.invokevirtual 293, 3) := by decide +kernel
theorem dX7_would_42 : decode cX7_would 42 = .ok (.sipush 9000, 3) := by decide +kernel
theorem dX7_would_45 : decode cX7_would 45 = .ok (.istore_n 3, 1) := by decide +kernel
theorem dX7_would_46 : decode cX7_would 46 = .ok (.iconst 0, 1) := by decide +kernel
theorem dX7_would_47 : decode cX7_would 47 = .ok (.istore 4, 2) := by decide +kernel
theorem dX7_would_49 : decode cX7_would 49 = .ok (.iload 4, 2) := by decide +kernel
theorem dX7_would_51 : decode cX7_would 51 = .ok (.iload_n 1, 1) := by decide +kernel
theorem dX7_would_52 : decode cX7_would 52 = .ok (.if_icmp .ge 29, 3) := by decide +kernel
theorem dX7_would_55 : decode cX7_would 55 = .ok (.aload_n 0, 1) := by decide +kernel
theorem dX7_would_56 : decode cX7_would 56 = .ok (.getfield 23, 3) := by decide +kernel
theorem dX7_would_59 : decode cX7_would 59 = .ok (.invokevirtual 182, 3) := by decide +kernel
theorem dX7_would_62 : decode cX7_would 62 = .ok (.pop, 1) := by decide +kernel
theorem dX7_would_63 : decode cX7_would 63 = .ok (.iload_n 3, 1) := by decide +kernel
theorem dX7_would_64 : decode cX7_would 64 = .ok (.aload_n 0, 1) := by decide +kernel
theorem dX7_would_65 : decode cX7_would 65 = .ok (.getfield 23, 3) := by decide +kernel
theorem dX7_would_68 : decode cX7_would 68 = .ok (.getfield 134, 3) := by decide +kernel
theorem dX7_would_71 : decode cX7_would 71 = .ok (.invokestatic 321, 3) := by decide +kernel
theorem dX7_would_74 : decode cX7_would 74 = .ok (.istore_n 3, 1) := by decide +kernel
theorem dX7_would_75 : decode cX7_would 75 = .ok (.iinc 4 1, 3) := by decide +kernel
theorem dX7_would_78 : decode cX7_would 78 = .ok (.goto (-29), 3) := by decide +kernel
theorem dX7_would_81 : decode cX7_would 81 = .ok (.iload_n 2, 1) := by decide +kernel
theorem dX7_would_82 : decode cX7_would 82 = .ok (.ifCond .ne 21, 3) := by decide +kernel
theorem dX7_would_85 : decode cX7_would 85 = .ok (.aload_n 0, 1) := by decide +kernel
theorem dX7_would_86 : decode cX7_would 86 = .ok (.getfield 23, 3) := by decide +kernel
theorem dX7_would_89 : decode cX7_would 89 = .ok (.getfield 268, 3) := by decide +kernel
theorem dX7_would_92 : decode cX7_would 92 = .ok (.aload_n 0, 1) := by decide +kernel
theorem dX7_would_93 : decode cX7_would 93 = .ok (.getfield 19, 3) := by decide +kernel
theorem dX7_would_96 : decode cX7_would 96 = .ok (.getfield 268, 3) := by decide +kernel
theorem dX7_would_99 : decode cX7_would 99 = .ok (.isub, 1) := by decide +kernel
theorem dX7_would_100 : decode cX7_would 100 = .ok (.goto 4, 3) := by decide +kernel
theorem dX7_would_103 : decode cX7_would 103 = .ok (.iload_n 3, 1) := by decide +kernel
theorem dX7_would_104 : decode cX7_would 104 = .ok (.ireturn, 1) := by decide +kernel
theorem dX7_digest_0 : decode cX7_digest 0 = .ok (.ldc2_w 326, 3) := by decide +kernel
theorem dX7_digest_3 : decode cX7_digest 3 = .ok (.lstore_n 1, 1) := by decide +kernel
theorem dX7_digest_4 : decode cX7_digest 4 = .ok (.iconst 0, 1) := by decide +kernel
theorem dX7_digest_5 : decode cX7_digest 5 = .ok (.istore_n 3, 1) := by decide +kernel
theorem dX7_digest_6 : decode cX7_digest 6 = .ok (.iload_n 3, 1) := by decide +kernel
theorem dX7_digest_7 : decode cX7_digest 7 = .ok (.bipush 15, 2) := by decide +kernel
theorem dX7_digest_9 : decode cX7_digest 9 = .ok (.if_icmp .gt 22, 3) := by decide +kernel
theorem dX7_digest_12 : decode cX7_digest 12 = .ok (.lload_n 1, 1) := by decide +kernel
theorem dX7_digest_13 : decode cX7_digest 13 = .ok (.ldc2_w 328, 3) := by decide +kernel
theorem dX7_digest_16 : decode cX7_digest 16 = .ok (.lmul, 1) := by decide +kernel
theorem dX7_digest_17 : decode cX7_digest 17 = .ok (.aload_n 0, 1) := by decide +kernel
theorem dX7_digest_18 : decode cX7_digest 18 = .ok (.iload_n 3, 1) := by decide +kernel
theorem dX7_digest_19 : decode cX7_digest 19 = .ok (.invokevirtual 330, 3) := by decide +kernel
theorem dX7_digest_22 : decode cX7_digest 22 = .ok (.i2l, 1) := by decide +kernel
theorem dX7_digest_23 : decode cX7_digest 23 = .ok (.ladd, 1) := by decide +kernel
theorem dX7_digest_24 : decode cX7_digest 24 = .ok (.lstore_n 1, 1) := by decide +kernel
theorem dX7_digest_25 : decode cX7_digest 25 = .ok (.iinc 3 1, 3) := by decide +kernel
theorem dX7_digest_28 : decode cX7_digest 28 = .ok (.goto (-22), 3) := by decide +kernel
theorem dX7_digest_31 : decode cX7_digest 31 = .ok (.iconst 0, 1) := by decide +kernel
theorem dX7_digest_32 : decode cX7_digest 32 = .ok (.istore_n 3, 1) := by decide +kernel
theorem dX7_digest_33 : decode cX7_digest 33 = .ok (.iload_n 3, 1) := by decide +kernel
theorem dX7_digest_34 : decode cX7_digest 34 = .ok (.aload_n 0, 1) := by decide +kernel
theorem dX7_digest_35 : decode cX7_digest 35 = .ok (.getfield 19, 3) := by decide +kernel
theorem dX7_digest_38 : decode cX7_digest 38 = .ok (.getfield 33, 3) := by decide +kernel
theorem dX7_digest_41 : decode cX7_digest 41 = .ok (.invokevirtual 36, 3) := by decide +kernel
theorem dX7_digest_44 : decode cX7_digest 44 = .ok (.if_icmp .ge 40, 3) := by decide +kernel
theorem dX7_digest_47 : decode cX7_digest 47 = .ok (.iconst 0, 1) := by decide +kernel
theorem dX7_digest_48 : decode cX7_digest 48 = .ok (.istore 4, 2) := by decide +kernel
theorem dX7_digest_50 : decode cX7_digest 50 = .ok (.iload 4, 2) := by decide +kernel
theorem dX7_digest_52 : decode cX7_digest 52 = .ok (.bipush 6, 2) := by decide +kernel
theorem dX7_digest_54 : decode cX7_digest 54 = .ok (.if_icmp .gt 24, 3) := by decide +kernel
theorem dX7_digest_57 : decode cX7_digest 57 = .ok (.lload_n 1, 1) := by decide +kernel
theorem dX7_digest_58 : decode cX7_digest 58 = .ok (.ldc2_w 328, 3) := by decide +kernel
theorem dX7_digest_61 : decode cX7_digest 61 = .ok (.lmul, 1) := by decide +kernel
theorem dX7_digest_62 : decode cX7_digest 62 = .ok (.aload_n 0, 1) := by decide +kernel
theorem dX7_digest_63 : decode cX7_digest 63 = .ok (.iload_n 3, 1) := by decide +kernel
theorem dX7_digest_64 : decode cX7_digest 64 = .ok (.iload 4, 2) := by decide +kernel
theorem dX7_digest_66 : decode cX7_digest 66 = .ok (.invokevirtual 333, 3) := by decide +kernel
theorem dX7_digest_69 : decode cX7_digest 69 = .ok (.i2l, 1) := by decide +kernel
theorem dX7_digest_70 : decode cX7_digest 70 = .ok (.ladd, 1) := by decide +kernel
theorem dX7_digest_71 : decode cX7_digest 71 = .ok (.lstore_n 1, 1) := by decide +kernel
theorem dX7_digest_72 : decode cX7_digest 72 = .ok (.iinc 4 1, 3) := by decide +kernel
theorem dX7_digest_75 : decode cX7_digest 75 = .ok (.goto (-25), 3) := by decide +kernel
theorem dX7_digest_78 : decode cX7_digest 78 = .ok (.iinc 3 1, 3) := by decide +kernel
theorem dX7_digest_81 : decode cX7_digest 81 = .ok (.goto (-48), 3) := by decide +kernel
theorem dX7_digest_84 : decode cX7_digest 84 = .ok (.iconst 0, 1) := by decide +kernel
theorem dX7_digest_85 : decode cX7_digest 85 = .ok (.istore_n 3, 1) := by decide +kernel
theorem dX7_digest_86 : decode cX7_digest 86 = .ok (.iload_n 3, 1) := by decide +kernel
theorem dX7_digest_87 : decode cX7_digest 87 = .ok (.aload_n 0, 1) := by decide +kernel
theorem dX7_digest_88 : decode cX7_digest 88 = .ok (.getfield 19, 3) := by decide +kernel
theorem dX7_digest_91 : decode cX7_digest 91 = .ok (.getfield 60, 3) := by decide +kernel
theorem dX7_digest_94 : decode cX7_digest 94 = .ok (.invokevirtual 36, 3) := by decide +kernel
theorem dX7_digest_97 : decode cX7_digest 97 = .ok (.if_icmp .ge 84, 3) := by decide +kernel
theorem dX7_digest_100 : decode cX7_digest 100 = .ok (.iconst 0, 1) := by decide +kernel
theorem dX7_digest_101 : decode cX7_digest 101 = .ok (.istore 4, 2) := by decide +kernel
theorem dX7_digest_103 : decode cX7_digest 103 = .ok (.iload 4, 2) := by decide +kernel
theorem dX7_digest_105 : decode cX7_digest 105 = .ok (.bipush 11, 2) := by decide +kernel
theorem dX7_digest_107 : decode cX7_digest 107 = .ok (.if_icmp .gt 24, 3) := by decide +kernel
theorem dX7_digest_110 : decode cX7_digest 110 = .ok (.lload_n 1, 1) := by decide +kernel
theorem dX7_digest_111 : decode cX7_digest 111 = .ok (.ldc2_w 328, 3) := by decide +kernel
theorem dX7_digest_114 : decode cX7_digest 114 = .ok (.lmul, 1) := by decide +kernel
theorem dX7_digest_115 : decode cX7_digest 115 = .ok (.aload_n 0, 1) := by decide +kernel
theorem dX7_digest_116 : decode cX7_digest 116 = .ok (.iload_n 3, 1) := by decide +kernel
theorem dX7_digest_117 : decode cX7_digest 117 = .ok (.iload 4, 2) := by decide +kernel
theorem dX7_digest_119 : decode cX7_digest 119 = .ok (.invokevirtual 336, 3) := by decide +kernel
theorem dX7_digest_122 : decode cX7_digest 122 = .ok (.i2l, 1) := by decide +kernel
theorem dX7_digest_123 : decode cX7_digest 123 = .ok (.ladd, 1) := by decide +kernel
theorem dX7_digest_124 : decode cX7_digest 124 = .ok (.lstore_n 1, 1) := by decide +kernel
theorem dX7_digest_125 : decode cX7_digest 125 = .ok (.iinc 4 1, 3) := by decide +kernel
theorem dX7_digest_128 : decode cX7_digest 128 = .ok (.goto (-25), 3) := by decide +kernel
theorem dX7_digest_131 : decode cX7_digest 131 = .ok (.lload_n 1, 1) := by decide +kernel
theorem dX7_digest_132 : decode cX7_digest 132 = .ok (.ldc2_w 328, 3) := by decide +kernel
theorem dX7_digest_135 : decode cX7_digest 135 = .ok (.lmul, 1) := by decide +kernel
theorem dX7_digest_136 : decode cX7_digest 136 = .ok (.aload_n 0, 1) := by decide +kernel
theorem dX7_digest_137 : decode cX7_digest 137 = .ok (.iload_n 3, 1) := by decide +kernel
theorem dX7_digest_138 : decode cX7_digest 138 = .ok (.iconst 5, 1) := by decide +kernel
theorem dX7_digest_139 : decode cX7_digest 139 = .ok (.invokevirtual 339, 3) := by decide +kernel
theorem dX7_digest_142 : decode cX7_digest 142 = .ok (.i2l, 1) := by decide +kernel
theorem dX7_digest_143 : decode cX7_digest 143 = .ok (.ladd, 1) := by decide +kernel
theorem dX7_digest_144 : decode cX7_digest 144 = .ok (.lstore_n 1, 1) := by decide +kernel
theorem dX7_digest_145 : decode cX7_digest 145 = .ok (.lload_n 1, 1) := by decide +kernel
theorem dX7_digest_146 : decode cX7_digest 146 = .ok (.ldc2_w 328, 3) := by decide +kernel
theorem dX7_digest_149 : decode cX7_digest 149 = .ok (.lmul, 1) := by decide +kernel
theorem dX7_digest_150 : decode cX7_digest 150 = .ok (.aload_n 0, 1) := by decide +kernel
theorem dX7_digest_151 : decode cX7_digest 151 = .ok (.iload_n 3, 1) := by decide +kernel
theorem dX7_digest_152 : decode cX7_digest 152 = .ok (.bipush 20, 2) := by decide +kernel
theorem dX7_digest_154 : decode cX7_digest 154 = .ok (.invokevirtual 313, 3) := by decide +kernel
theorem dX7_digest_157 : decode cX7_digest 157 = .ok (.i2l, 1) := by decide +kernel
theorem dX7_digest_158 : decode cX7_digest 158 = .ok (.ladd, 1) := by decide +kernel
theorem dX7_digest_159 : decode cX7_digest 159 = .ok (.lstore_n 1, 1) := by decide +kernel
theorem dX7_digest_160 : decode cX7_digest 160 = .ok (.lload_n 1, 1) := by decide +kernel
theorem dX7_digest_161 : decode cX7_digest 161 = .ok (.ldc2_w 328, 3) := by decide +kernel
theorem dX7_digest_164 : decode cX7_digest 164 = .ok (.lmul, 1) := by decide +kernel
theorem dX7_digest_165 : decode cX7_digest 165 = .ok (.aload_n 0, 1) := by decide +kernel
theorem dX7_digest_166 : decode cX7_digest 166 = .ok (.iload_n 3, 1) := by decide +kernel
theorem dX7_digest_167 : decode cX7_digest 167 = .ok (.bipush 20, 2) := by decide +kernel
theorem dX7_digest_169 : decode cX7_digest 169 = .ok (.invokevirtual 342, 3) := by decide +kernel
theorem dX7_digest_172 : decode cX7_digest 172 = .ok (.i2l, 1) := by decide +kernel
theorem dX7_digest_173 : decode cX7_digest 173 = .ok (.ladd, 1) := by decide +kernel
theorem dX7_digest_174 : decode cX7_digest 174 = .ok (.lstore_n 1, 1) := by decide +kernel
theorem dX7_digest_175 : decode cX7_digest 175 = .ok (.iinc 3 1, 3) := by decide +kernel
theorem dX7_digest_178 : decode cX7_digest 178 = .ok (.goto (-92), 3) := by decide +kernel
theorem dX7_digest_181 : decode cX7_digest 181 = .ok (.iconst 1, 1) := by decide +kernel
theorem dX7_digest_182 : decode cX7_digest 182 = .ok (.istore_n 3, 1) := by decide +kernel
theorem dX7_digest_183 : decode cX7_digest 183 = .ok (.iload_n 3, 1) := by decide +kernel
theorem dX7_digest_184 : decode cX7_digest 184 = .ok (.bipush 8, 2) := by decide +kernel
theorem dX7_digest_186 : decode cX7_digest 186 = .ok (.if_icmp .gt 22, 3) := by decide +kernel
theorem dX7_digest_189 : decode cX7_digest 189 = .ok (.lload_n 1, 1) := by decide +kernel
theorem dX7_digest_190 : decode cX7_digest 190 = .ok (.ldc2_w 328, 3) := by decide +kernel
theorem dX7_digest_193 : decode cX7_digest 193 = .ok (.lmul, 1) := by decide +kernel
theorem dX7_digest_194 : decode cX7_digest 194 = .ok (.aload_n 0, 1) := by decide +kernel
theorem dX7_digest_195 : decode cX7_digest 195 = .ok (.iload_n 3, 1) := by decide +kernel
theorem dX7_digest_196 : decode cX7_digest 196 = .ok (.invokevirtual 345, 3) := by decide +kernel
theorem dX7_digest_199 : decode cX7_digest 199 = .ok (.i2l, 1) := by decide +kernel
theorem dX7_digest_200 : decode cX7_digest 200 = .ok (.ladd, 1) := by decide +kernel
theorem dX7_digest_201 : decode cX7_digest 201 = .ok (.lstore_n 1, 1) := by decide +kernel
theorem dX7_digest_202 : decode cX7_digest 202 = .ok (.iinc 3 1, 3) := by decide +kernel
theorem dX7_digest_205 : decode cX7_digest 205 = .ok (.goto (-22), 3) := by decide +kernel
theorem dX7_digest_208 : decode cX7_digest 208 = .ok (.iconst 0, 1) := by decide +kernel
theorem dX7_digest_209 : decode cX7_digest 209 = .ok (.istore_n 3, 1) := by decide +kernel
theorem dX7_digest_210 : decode cX7_digest 210 = .ok (.iload_n 3, 1) := by decide +kernel
theorem dX7_digest_211 : decode cX7_digest 211 = .ok (.aload_n 0, 1) := by decide +kernel
theorem dX7_digest_212 : decode cX7_digest 212 = .ok (.getfield 19, 3) := by decide +kernel
theorem dX7_digest_215 : decode cX7_digest 215 = .ok (.getfield 161, 3) := by decide +kernel
theorem dX7_digest_218 : decode cX7_digest 218 = .ok (.invokevirtual 36, 3) := by decide +kernel
theorem dX7_digest_221 : decode cX7_digest 221 = .ok (.if_icmp .ge 22, 3) := by decide +kernel
theorem dX7_digest_224 : decode cX7_digest 224 = .ok (.lload_n 1, 1) := by decide +kernel
theorem dX7_digest_225 : decode cX7_digest 225 = .ok (.ldc2_w 328, 3) := by decide +kernel
theorem dX7_digest_228 : decode cX7_digest 228 = .ok (.lmul, 1) := by decide +kernel
theorem dX7_digest_229 : decode cX7_digest 229 = .ok (.aload_n 0, 1) := by decide +kernel
theorem dX7_digest_230 : decode cX7_digest 230 = .ok (.iload_n 3, 1) := by decide +kernel
theorem dX7_digest_231 : decode cX7_digest 231 = .ok (.invokevirtual 348, 3) := by decide +kernel
theorem dX7_digest_234 : decode cX7_digest 234 = .ok (.i2l, 1) := by decide +kernel
theorem dX7_digest_235 : decode cX7_digest 235 = .ok (.ladd, 1) := by decide +kernel
theorem dX7_digest_236 : decode cX7_digest 236 = .ok (.lstore_n 1, 1) := by decide +kernel
theorem dX7_digest_237 : decode cX7_digest 237 = .ok (.iinc 3 1, 3) := by decide +kernel
theorem dX7_digest_240 : decode cX7_digest 240 = .ok (.goto (-30), 3) := by decide +kernel
theorem dX7_digest_243 : decode cX7_digest 243 = .ok (.lload_n 1, 1) := by decide +kernel
theorem dX7_digest_244 : decode cX7_digest 244 = .ok (.ldc2_w 328, 3) := by decide +kernel
theorem dX7_digest_247 : decode cX7_digest 247 = .ok (.lmul, 1) := by decide +kernel
theorem dX7_digest_248 : decode cX7_digest 248 = .ok (.aload_n 0, 1) := by decide +kernel
theorem dX7_digest_249 : decode cX7_digest 249 = .ok (.bipush 12, 2) := by decide +kernel
theorem dX7_digest_251 : decode cX7_digest 251 = .ok (.iconst 0, 1) := by decide +kernel
theorem dX7_digest_252 : decode cX7_digest 252 = .ok (.invokevirtual 351, 3) := by decide +kernel
theorem dX7_digest_255 : decode cX7_digest 255 = .ok (.i2l, 1) := by decide +kernel
theorem dX7_digest_256 : decode cX7_digest 256 = .ok (.ladd, 1) := by decide +kernel
theorem dX7_digest_257 : decode cX7_digest 257 = .ok (.lstore_n 1, 1) := by decide +kernel
theorem dX7_digest_258 : decode cX7_digest 258 = .ok (.lload_n 1, 1) := by decide +kernel
theorem dX7_digest_259 : decode cX7_digest 259 = .ok (.ldc2_w 328, 3) := by decide +kernel
theorem dX7_digest_262 : decode cX7_digest 262 = .ok (.lmul, 1) := by decide +kernel
theorem dX7_digest_263 : decode cX7_digest 263 = .ok (.aload_n 0, 1) := by decide +kernel
theorem dX7_digest_264 : decode cX7_digest 264 = .ok (.bipush 12, 2) := by decide +kernel
theorem dX7_digest_266 : decode cX7_digest 266 = .ok (.iconst 1, 1) := by decide +kernel
theorem dX7_digest_267 : decode cX7_digest 267 = .ok (.invokevirtual 351, 3) := by decide +kernel
theorem dX7_digest_270 : decode cX7_digest 270 = .ok (.i2l, 1) := by decide +kernel
theorem dX7_digest_271 : decode cX7_digest 271 = .ok (.ladd, 1) := by decide +kernel
theorem dX7_digest_272 : decode cX7_digest 272 = .ok (.lstore_n 1, 1) := by decide +kernel
theorem dX7_digest_273 : decode cX7_digest 273 = .ok (.lload_n 1, 1) := by decide +kernel
theorem dX7_digest_274 : decode cX7_digest 274 = .ok (.lreturn, 1) := by decide +kernel
theorem dX7_pumpNumbered_0 : decode cX7_pumpNumbered 0 = .ok (.iload_n 1, 1) := by decide +kernel
theorem dX7_pumpNumbered_1 : decode cX7_pumpNumbered 1 = .ok (.ifCond .lt 17, 3) := by decide +kernel
theorem dX7_pumpNumbered_4 : decode cX7_pumpNumbered 4 = .ok (.iload_n 1, 1) := by decide +kernel
theorem dX7_pumpNumbered_5 : decode cX7_pumpNumbered 5 = .ok (.aload_n 0, 1) := by decide +kernel
theorem dX7_pumpNumbered_6 : decode cX7_pumpNumbered 6 = .ok (.getfield 19, 3) := by decide +kernel
theorem dX7_pumpNumbered_9 : decode cX7_pumpNumbered 9 = .ok (.getfield 33, 3) := by decide +kernel
theorem dX7_pumpNumbered_12 : decode cX7_pumpNumbered 12 = .ok (.invokevirtual 36, 3) := by decide +kernel
theorem dX7_pumpNumbered_15 : decode cX7_pumpNumbered 15 = .ok (.if_icmp .lt 14, 3) := by decide +kernel
theorem dX7_pumpNumbered_18 : decode cX7_pumpNumbered 18 = .ok (.new 247, 3) := by decide +kernel
theorem dX7_pumpNumbered_21 : decode cX7_pumpNumbered 21 = .ok (.dup, 1) := by decide +kernel
theorem dX7_pumpNumbered_22 : decode cX7_pumpNumbered 22 = .ok (.ldc_w 354, 3) := by decide +kernel
theorem dX7_pumpNumbered_25 : decode cX7_pumpNumbered 25 = .ok (.invokespecial 251, 3) := by decide +kernel
theorem dX7_pumpNumbered_28 : decode cX7_pumpNumbered 28 = .ok (.athrow, 1) := by decide +kernel
theorem dX7_pumpNumbered_29 : decode cX7_pumpNumbered 29 = .ok (.aload_n 0, 1) := by decide +kernel
theorem dX7_pumpNumbered_30 : decode cX7_pumpNumbered 30 = .ok (.getfield 19, 3) := by decide +kernel
theorem dX7_pumpNumbered_33 : decode cX7_pumpNumbered 33 = .ok (.getfield 33, 3) := by decide +kernel
theorem dX7_pumpNumbered_36 : decode cX7_pumpNumbered 36 = .ok (.iload_n 1, 1) := by decide +kernel
theorem dX7_pumpNumbered_37 : decode cX7_pumpNumbered 37 = .ok (.invokevirtual 252, 3) := by decide +kernel
theorem dX7_pumpNumbered_40 : decode cX7_pumpNumbered 40 = .ok (.checkcast 45, 3) := by decide +kernel
theorem dX7_pumpNumbered_43 : decode cX7_pumpNumbered 43 = .ok (.areturn, 1) := by decide +kernel
theorem dX7_jetNumbered_0 : decode cX7_jetNumbered 0 = .ok (.iload_n 1, 1) := by decide +kernel
theorem dX7_jetNumbered_1 : decode cX7_jetNumbered 1 = .ok (.ifCond .lt 17, 3) := by decide +kernel
theorem dX7_jetNumbered_4 : decode cX7_jetNumbered 4 = .ok (.iload_n 1, 1) := by decide +kernel
theorem dX7_jetNumbered_5 : decode cX7_jetNumbered 5 = .ok (.aload_n 0, 1) := by decide +kernel
theorem dX7_jetNumbered_6 : decode cX7_jetNumbered 6 = .ok (.getfield 19, 3) := by decide +kernel
theorem dX7_jetNumbered_9 : decode cX7_jetNumbered 9 = .ok (.getfield 60, 3) := by decide +kernel
theorem dX7_jetNumbered_12 : decode cX7_jetNumbered 12 = .ok (.invokevirtual 36, 3) := by decide +kernel
theorem dX7_jetNumbered_15 : decode cX7_jetNumbered 15 = .ok (.if_icmp .lt 14, 3) := by decide +kernel
theorem dX7_jetNumbered_18 : decode cX7_jetNumbered 18 = .ok (.new 247, 3) := by decide +kernel
theorem dX7_jetNumbered_21 : decode cX7_jetNumbered 21 = .ok (.dup, 1) := by decide +kernel
theorem dX7_jetNumbered_22 : decode cX7_jetNumbered 22 = .ok (.ldc_w 356, 3) := by decide +kernel
theorem dX7_jetNumbered_25 : decode cX7_jetNumbered 25 = .ok (.invokespecial 251, 3) := by decide +kernel
theorem dX7_jetNumbered_28 : decode cX7_jetNumbered 28 = .ok (.athrow, 1) := by decide +kernel
theorem dX7_jetNumbered_29 : decode cX7_jetNumbered 29 = .ok (.aload_n 0, 1) := by decide +kernel
theorem dX7_jetNumbered_30 : decode cX7_jetNumbered 30 = .ok (.getfield 19, 3) := by decide +kernel
theorem dX7_jetNumbered_33 : decode cX7_jetNumbered 33 = .ok (.getfield 60, 3) := by decide +kernel
theorem dX7_jetNumbered_36 : decode cX7_jetNumbered 36 = .ok (.iload_n 1, 1) := by decide +kernel
theorem dX7_jetNumbered_37 : decode cX7_jetNumbered 37 = .ok (.invokevirtual 252, 3) := by decide +kernel
theorem dX7_jetNumbered_40 : decode cX7_jetNumbered 40 = .ok (.checkcast 116, 3) := by decide +kernel
theorem dX7_jetNumbered_43 : decode cX7_jetNumbered 43 = .ok (.areturn, 1) := by decide +kernel
theorem dX7_figureNumbered_0 : decode cX7_figureNumbered 0 = .ok (.iload_n 1, 1) := by decide +kernel
theorem dX7_figureNumbered_1 : decode cX7_figureNumbered 1 = .ok (.ifCond .lt 14, 3) := by decide +kernel
theorem dX7_figureNumbered_4 : decode cX7_figureNumbered 4 = .ok (.iload_n 1, 1) := by decide +kernel
theorem dX7_figureNumbered_5 : decode cX7_figureNumbered 5 = .ok (.aload_n 0, 1) := by decide +kernel
theorem dX7_figureNumbered_6 : decode cX7_figureNumbered 6 = .ok (.getfield 10, 3) := by decide +kernel
theorem dX7_figureNumbered_9 : decode cX7_figureNumbered 9 = .ok (.invokevirtual 36, 3) := by decide +kernel
theorem dX7_figureNumbered_12 : decode cX7_figureNumbered 12 = .ok (.if_icmp .lt 14, 3) := by decide +kernel
theorem dX7_figureNumbered_15 : decode cX7_figureNumbered 15 = .ok (.new 247, 3) := by decide +kernel
theorem dX7_figureNumbered_18 : decode cX7_figureNumbered 18 = .ok (.dup, 1) := by decide +kernel
theorem dX7_figureNumbered_19 : decode cX7_figureNumbered 19 = .ok (.ldc_w 358, 3) := by decide +kernel
theorem dX7_figureNumbered_22 : decode cX7_figureNumbered 22 = .ok (.invokespecial 251, 3) := by decide +kernel
theorem dX7_figureNumbered_25 : decode cX7_figureNumbered 25 = .ok (.athrow, 1) := by decide +kernel
theorem dX7_figureNumbered_26 : decode cX7_figureNumbered 26 = .ok (.aload_n 0, 1) := by decide +kernel
theorem dX7_figureNumbered_27 : decode cX7_figureNumbered 27 = .ok (.getfield 10, 3) := by decide +kernel
theorem dX7_figureNumbered_30 : decode cX7_figureNumbered 30 = .ok (.iload_n 1, 1) := by decide +kernel
theorem dX7_figureNumbered_31 : decode cX7_figureNumbered 31 = .ok (.invokevirtual 252, 3) := by decide +kernel
theorem dX7_figureNumbered_34 : decode cX7_figureNumbered 34 = .ok (.checkcast 71, 3) := by decide +kernel
theorem dX7_figureNumbered_37 : decode cX7_figureNumbered 37 = .ok (.areturn, 1) := by decide +kernel
theorem dX8_init_0 : decode cX8_init 0 = .ok (.aload_n 0, 1) := by decide +kernel
theorem dX8_init_1 : decode cX8_init 1 = .ok (.invokespecial 3, 3) := by decide +kernel
theorem dX8_init_4 : decode cX8_init 4 = .ok (.aload_n 0, 1) := by decide +kernel
theorem dX8_init_5 : decode cX8_init 5 = .ok (.sipush 3000, 3) := by decide +kernel
theorem dX8_init_8 : decode cX8_init 8 = .ok (.putfield 9, 3) := by decide +kernel
theorem dX8_init_11 : decode cX8_init 11 = .ok (.aload_n 0, 1) := by decide +kernel
theorem dX8_init_12 : decode cX8_init 12 = .ok (.new 15, 3) := by decide +kernel
theorem dX8_init_15 : decode cX8_init 15 = .ok (.dup, 1) := by decide +kernel
theorem dX8_init_16 : decode cX8_init 16 = .ok (.invokespecial 17, 3) := by decide +kernel
theorem dX8_init_19 : decode cX8_init 19 = .ok (.putfield 18, 3) := by decide +kernel
theorem dX8_init_22 : decode cX8_init 22 = .ok (.aload_n 0, 1) := by decide +kernel
theorem dX8_init_23 : decode cX8_init 23 = .ok (.new 15, 3) := by decide +kernel
theorem dX8_init_26 : decode cX8_init 26 = .ok (.dup, 1) := by decide +kernel
theorem dX8_init_27 : decode cX8_init 27 = .ok (.invokespecial 17, 3) := by decide +kernel
theorem dX8_init_30 : decode cX8_init 30 = .ok (.putfield 22, 3) := by decide +kernel
theorem dX8_init_33 : decode cX8_init 33 = .ok (.aload_n 0, 1) := by decide +kernel
theorem dX8_init_34 : decode cX8_init 34 = .ok (.new 15, 3) := by decide +kernel
theorem dX8_init_37 : decode cX8_init 37 = .ok (.dup, 1) := by decide +kernel
theorem dX8_init_38 : decode cX8_init 38 = .ok (.invokespecial 17, 3) := by decide +kernel
theorem dX8_init_41 : decode cX8_init 41 = .ok (.putfield 25, 3) := by decide +kernel
theorem dX8_init_44 : decode cX8_init 44 = .ok (.aload_n 0, 1) := by decide +kernel
theorem dX8_init_45 : decode cX8_init 45 = .ok (.new 15, 3) := by decide +kernel
theorem dX8_init_48 : decode cX8_init 48 = .ok (.dup, 1) := by decide +kernel
theorem dX8_init_49 : decode cX8_init 49 = .ok (.invokespecial 17, 3) := by decide +kernel
theorem dX8_init_52 : decode cX8_init 52 = .ok (.putfield 28, 3) := by decide +kernel
theorem dX8_init_55 : decode cX8_init 55 = .ok (.return_, 1) := by decide +kernel
theorem dX8_copy_0 : decode cX8_copy 0 = .ok (.new 10, 3) := by decide +kernel
theorem dX8_copy_3 : decode cX8_copy 3 = .ok (.dup, 1) := by decide +kernel
theorem dX8_copy_4 : decode cX8_copy 4 = .ok (.invokespecial 31, 3) := by decide +kernel
theorem dX8_copy_7 : decode cX8_copy 7 = .ok (.astore_n 1, 1) := by decide +kernel
theorem dX8_copy_8 : decode cX8_copy 8 = .ok (.aload_n 1, 1) := by decide +kernel
theorem dX8_copy_9 : decode cX8_copy 9 = .ok (.aload_n 0, 1) := by decide +kernel
theorem dX8_copy_10 : decode cX8_copy 10 = .ok (.getfield 32, 3) := by decide +kernel
theorem dX8_copy_13 : decode cX8_copy 13 = .ok (.putfield 32, 3) := by decide +kernel
theorem dX8_copy_16 : decode cX8_copy 16 = .ok (.aload_n 1, 1) := by decide +kernel
theorem dX8_copy_17 : decode cX8_copy 17 = .ok (.aload_n 0, 1) := by decide +kernel
theorem dX8_copy_18 : decode cX8_copy 18 = .ok (.getfield 9, 3) := by decide +kernel
theorem dX8_copy_21 : decode cX8_copy 21 = .ok (.putfield 9, 3) := by decide +kernel
theorem dX8_copy_24 : decode cX8_copy 24 = .ok (.aload_n 1, 1) := by decide +kernel
theorem dX8_copy_25 : decode cX8_copy 25 = .ok (.aload_n 0, 1) := by decide +kernel
theorem dX8_copy_26 : decode cX8_copy 26 = .ok (.getfield 35, 3) := by decide +kernel
theorem dX8_copy_29 : decode cX8_copy 29 = .ok (.putfield 35, 3) := by decide +kernel
theorem dX8_copy_32 : decode cX8_copy 32 = .ok (.aload_n 1, 1) := by decide +kernel
theorem dX8_copy_33 : decode cX8_copy 33 = .ok (.aload_n 0, 1) := by decide +kernel
theorem dX8_copy_34 : decode cX8_copy 34 = .ok (.getfield 38, 3) := by decide +kernel
theorem dX8_copy_37 : decode cX8_copy 37 = .ok (.putfield 38, 3) := by decide +kernel
theorem dX8_copy_40 : decode cX8_copy 40 = .ok (.aload_n 1, 1) := by decide +kernel
theorem dX8_copy_41 : decode cX8_copy 41 = .ok (.aload_n 0, 1) := by decide +kernel
theorem dX8_copy_42 : decode cX8_copy 42 = .ok (.getfield 41, 3) := by decide +kernel
theorem dX8_copy_45 : decode cX8_copy 45 = .ok (.putfield 41, 3) := by decide +kernel
theorem dX8_copy_48 : decode cX8_copy 48 = .ok (.iconst 0, 1) := by decide +kernel
theorem dX8_copy_49 : decode cX8_copy 49 = .ok (.istore_n 2, 1) := by decide +kernel
theorem dX8_copy_50 : decode cX8_copy 50 = .ok (.iload_n 2, 1) := by decide +kernel
theorem dX8_copy_51 : decode cX8_copy 51 = .ok (.aload_n 0, 1) := by decide +kernel
theorem dX8_copy_52 : decode cX8_copy 52 = .ok (.getfield 18, 3) := by decide +kernel
theorem dX8_copy_55 : decode cX8_copy 55 = .ok (.invokevirtual 45, 3) := by decide +kernel
theorem dX8_copy_58 : decode cX8_copy 58 = .ok (.if_icmp .ge 31, 3) := by decide +kernel
theorem dX8_copy_61 : decode cX8_copy 61 = .ok (.aload_n 1, 1) := by decide +kernel
theorem dX8_copy_62 : decode cX8_copy 62 = .ok (.getfield 18, 3) := by decide +kernel
theorem dX8_copy_65 : decode cX8_copy 65 = .ok (.aload_n 0, 1) := by decide +kernel
theorem dX8_copy_66 : decode cX8_copy 66 = .ok (.getfield 18, 3) := by decide +kernel
theorem dX8_copy_69 : decode cX8_copy 69 = .ok (.iload_n 2, 1) := by decide +kernel
theorem dX8_copy_70 : decode cX8_copy 70 = .ok (.invokevirtual 49, 3) := by decide +kernel
theorem dX8_copy_73 : decode cX8_copy 73 = .ok (.checkcast 53, 3) := by decide +kernel
theorem dX8_copy_76 : decode cX8_copy 76 = .ok (.invokevirtual 55, 3) := by decide +kernel
theorem dX8_copy_79 : decode cX8_copy 79 = .ok (.invokevirtual 59, 3) := by decide +kernel
theorem dX8_copy_82 : decode cX8_copy 82 = .ok (.pop, 1) := by decide +kernel
theorem dX8_copy_83 : decode cX8_copy 83 = .ok (.iinc 2 1, 3) := by decide +kernel
theorem dX8_copy_86 : decode cX8_copy 86 = .ok (.goto (-36), 3) := by decide +kernel
theorem dX8_copy_89 : decode cX8_copy 89 = .ok (.iconst 0, 1) := by decide +kernel
theorem dX8_copy_90 : decode cX8_copy 90 = .ok (.istore_n 2, 1) := by decide +kernel
theorem dX8_copy_91 : decode cX8_copy 91 = .ok (.iload_n 2, 1) := by decide +kernel
theorem dX8_copy_92 : decode cX8_copy 92 = .ok (.aload_n 0, 1) := by decide +kernel
theorem dX8_copy_93 : decode cX8_copy 93 = .ok (.getfield 22, 3) := by decide +kernel
theorem dX8_copy_96 : decode cX8_copy 96 = .ok (.invokevirtual 45, 3) := by decide +kernel
theorem dX8_copy_99 : decode cX8_copy 99 = .ok (.if_icmp .ge 31, 3) := by decide +kernel
theorem dX8_copy_102 : decode cX8_copy 102 = .ok (.aload_n 1, 1) := by decide +kernel
theorem dX8_copy_103 : decode cX8_copy 103 = .ok (.getfield 22, 3) := by decide +kernel
theorem dX8_copy_106 : decode cX8_copy 106 = .ok (.aload_n 0, 1) := by decide +kernel
theorem dX8_copy_107 : decode cX8_copy 107 = .ok (.getfield 22, 3) := by decide +kernel
theorem dX8_copy_110 : decode cX8_copy 110 = .ok (.iload_n 2, 1) := by decide +kernel
theorem dX8_copy_111 : decode cX8_copy 111 = .ok (.invokevirtual 49, 3) := by decide +kernel
theorem dX8_copy_114 : decode cX8_copy 114 = .ok (.checkcast 63, 3) := by decide +kernel
theorem dX8_copy_117 : decode cX8_copy 117 = .ok (.invokevirtual 65, 3) := by decide +kernel
theorem dX8_copy_120 : decode cX8_copy 120 = .ok (.invokevirtual 59, 3) := by decide +kernel
theorem dX8_copy_123 : decode cX8_copy 123 = .ok (.pop, 1) := by decide +kernel
theorem dX8_copy_124 : decode cX8_copy 124 = .ok (.iinc 2 1, 3) := by decide +kernel
theorem dX8_copy_127 : decode cX8_copy 127 = .ok (.goto (-36), 3) := by decide +kernel
theorem dX8_copy_130 : decode cX8_copy 130 = .ok (.aload_n 1, 1) := by decide +kernel
theorem dX8_copy_131 : decode cX8_copy 131 = .ok (.getfield 25, 3) := by decide +kernel
theorem dX8_copy_134 : decode cX8_copy 134 = .ok (.aload_n 0, 1) := by decide +kernel
theorem dX8_copy_135 : decode cX8_copy 135 = .ok (.getfield 25, 3) := by decide +kernel
theorem dX8_copy_138 : decode cX8_copy 138 = .ok (.invokevirtual 68, 3) := by decide +kernel
theorem dX8_copy_141 : decode cX8_copy 141 = .ok (.pop, 1) := by decide +kernel
theorem dX8_copy_142 : decode cX8_copy 142 = .ok (.aload_n 1, 1) := by decide +kernel
theorem dX8_copy_143 : decode cX8_copy 143 = .ok (.getfield 28, 3) := by decide +kernel
theorem dX8_copy_146 : decode cX8_copy 146 = .ok (.aload_n 0, 1) := by decide +kernel
theorem dX8_copy_147 : decode cX8_copy 147 = .ok (.getfield 28, 3) := by decide +kernel
theorem dX8_copy_150 : decode cX8_copy 150 = .ok (.invokevirtual 68, 3) := by decide +kernel
theorem dX8_copy_153 : decode cX8_copy 153 = .ok (.pop, 1) := by decide +kernel
theorem dX8_copy_154 : decode cX8_copy 154 = .ok (.aload_n 1, 1) := by decide +kernel
theorem dX8_copy_155 : decode cX8_copy 155 = .ok (.areturn, 1) := by decide +kernel
theorem dX8_fill_0 : decode cX8_fill 0 = .ok (.aload_n 0, 1) := by decide +kernel
theorem dX8_fill_1 : decode cX8_fill 1 = .ok (.dup, 1) := by decide +kernel
theorem dX8_fill_2 : decode cX8_fill 2 = .ok (.getfield 9, 3) := by decide +kernel
theorem dX8_fill_5 : decode cX8_fill 5 = .ok (.iload_n 1, 1) := by decide +kernel
theorem dX8_fill_6 : decode cX8_fill 6 = .ok (.iadd, 1) := by decide +kernel
theorem dX8_fill_7 : decode cX8_fill 7 = .ok (.putfield 9, 3) := by decide +kernel
theorem dX8_fill_10 : decode cX8_fill 10 = .ok (.aload_n 0, 1) := by decide +kernel
theorem dX8_fill_11 : decode cX8_fill 11 = .ok (.dup, 1) := by decide +kernel
theorem dX8_fill_12 : decode cX8_fill 12 = .ok (.getfield 112, 3) := by decide +kernel
theorem dX8_fill_15 : decode cX8_fill 15 = .ok (.iconst 0, 1) := by decide +kernel
theorem dX8_fill_16 : decode cX8_fill 16 = .ok (.aload_n 0, 1) := by decide +kernel
theorem dX8_fill_17 : decode cX8_fill 17 = .ok (.getfield 9, 3) := by decide +kernel
theorem dX8_fill_20 : decode cX8_fill 20 = .ok (.sipush 9000, 3) := by decide +kernel
theorem dX8_fill_23 : decode cX8_fill 23 = .ok (.isub, 1) := by decide +kernel
theorem dX8_fill_24 : decode cX8_fill 24 = .ok (.invokestatic 115, 3) := by decide +kernel
theorem dX8_fill_27 : decode cX8_fill 27 = .ok (.iadd, 1) := by decide +kernel
theorem dX8_fill_28 : decode cX8_fill 28 = .ok (.putfield 112, 3) := by decide +kernel
theorem dX8_fill_31 : decode cX8_fill 31 = .ok (.aload_n 0, 1) := by decide +kernel
theorem dX8_fill_32 : decode cX8_fill 32 = .ok (.sipush 9000, 3) := by decide +kernel
theorem dX8_fill_35 : decode cX8_fill 35 = .ok (.aload_n 0, 1) := by decide +kernel
theorem dX8_fill_36 : decode cX8_fill 36 = .ok (.getfield 9, 3) := by decide +kernel
theorem dX8_fill_39 : decode cX8_fill 39 = .ok (.invokestatic 91, 3) := by decide +kernel
theorem dX8_fill_42 : decode cX8_fill 42 = .ok (.putfield 9, 3) := by decide +kernel
theorem dX8_fill_45 : decode cX8_fill 45 = .ok (.return_, 1) := by decide +kernel
theorem dX8_steps_0 : decode cX8_steps 0 = .ok (.iconst 0, 1) := by decide +kernel
theorem dX8_steps_1 : decode cX8_steps 1 = .ok (.istore_n 1, 1) := by decide +kernel
theorem dX8_steps_2 : decode cX8_steps 2 = .ok (.iload_n 1, 1) := by decide +kernel
theorem dX8_steps_3 : decode cX8_steps 3 = .ok (.aload_n 0, 1) := by decide +kernel
theorem dX8_steps_4 : decode cX8_steps 4 = .ok (.getfield 25, 3) := by decide +kernel
theorem dX8_steps_7 : decode cX8_steps 7 = .ok (.invokevirtual 45, 3) := by decide +kernel
theorem dX8_steps_10 : decode cX8_steps 10 = .ok (.if_icmp .ge 64, 3) := by decide +kernel
theorem dX8_steps_13 : decode cX8_steps 13 = .ok (.aload_n 0, 1) := by decide +kernel
theorem dX8_steps_14 : decode cX8_steps 14 = .ok (.getfield 25, 3) := by decide +kernel
theorem dX8_steps_17 : decode cX8_steps 17 = .ok (.iload_n 1, 1) := by decide +kernel
theorem dX8_steps_18 : decode cX8_steps 18 = .ok (.invokevirtual 49, 3) := by decide +kernel
theorem dX8_steps_21 : decode cX8_steps 21 = .ok (.checkcast 127, 3) := by decide +kernel
theorem dX8_steps_24 : decode cX8_steps 24 = .ok (.astore_n 2, 1) := by decide +kernel
theorem dX8_steps_25 : decode cX8_steps 25 = .ok (.iconst 0, 1) := by decide +kernel
theorem dX8_steps_26 : decode cX8_steps 26 = .ok (.istore_n 3, 1) := by decide +kernel
theorem dX8_steps_27 : decode cX8_steps 27 = .ok (.iload_n 3, 1) := by decide +kernel
theorem dX8_steps_28 : decode cX8_steps 28 = .ok (.aload_n 2, 1) := by decide +kernel
theorem dX8_steps_29 : decode cX8_steps 29 = .ok (.getfield 129, 3) := by decide +kernel
theorem dX8_steps_32 : decode cX8_steps 32 = .ok (.arraylength, 1) := by decide +kernel
theorem dX8_steps_33 : decode cX8_steps 33 = .ok (.if_icmp .ge 35, 3) := by decide +kernel
theorem dX8_steps_36 : decode cX8_steps 36 = .ok (.aload_n 2, 1) := by decide +kernel
theorem dX8_steps_37 : decode cX8_steps 37 = .ok (.iload_n 3, 1) := by decide +kernel
theorem dX8_steps_38 : decode cX8_steps 38 = .ok (.invokevirtual 133, 3) := by decide +kernel
theorem dX8_steps_41 : decode cX8_steps 41 = .ok (.aload_n 0, 1) := by decide +kernel
theorem dX8_steps_42 : decode cX8_steps 42 = .ok (.getfield 32, 3) := by decide +kernel
theorem dX8_steps_45 : decode cX8_steps 45 = .ok (.if_icmp .ne 17, 3) := by decide +kernel
theorem dX8_steps_48 : decode cX8_steps 48 = .ok (.aload_n 0, 1) := by decide +kernel
theorem dX8_steps_49 : decode cX8_steps 49 = .ok (.aload_n 2, 1) := by decide +kernel
theorem dX8_steps_50 : decode cX8_steps 50 = .ok (.getfield 129, 3) := by decide +kernel
theorem dX8_steps_53 : decode cX8_steps 53 = .ok (.iload_n 3, 1) := by decide +kernel
theorem dX8_steps_54 : decode cX8_steps 54 = .ok (.aaload, 1) := by decide +kernel
theorem dX8_steps_55 : decode cX8_steps 55 = .ok (.aload_n 2, 1) := by decide +kernel
theorem dX8_steps_56 : decode cX8_steps 56 = .ok (.getfield 136, 3) := by decide +kernel
theorem dX8_steps_59 : decode cX8_steps 59 = .ok (.invokevirtual 139, 3) := by decide +kernel
theorem dX8_steps_62 : decode cX8_steps 62 = .ok (.iinc 3 1, 3) := by decide +kernel
theorem dX8_steps_65 : decode cX8_steps 65 = .ok (.goto (-38), 3) := by decide +kernel
theorem dX8_steps_68 : decode cX8_steps 68 = .ok (.iinc 1 1, 3) := by decide +kernel
theorem dX8_steps_71 : decode cX8_steps 71 = .ok (.goto (-69), 3) := by decide +kernel
theorem dX8_steps_74 : decode cX8_steps 74 = .ok (.return_, 1) := by decide +kernel
theorem dX8_land_0 : decode cX8_land 0 = .ok (.iconst 0, 1) := by decide +kernel
theorem dX8_land_1 : decode cX8_land 1 = .ok (.istore_n 1, 1) := by decide +kernel
theorem dX8_land_2 : decode cX8_land 2 = .ok (.iconst 0, 1) := by decide +kernel
theorem dX8_land_3 : decode cX8_land 3 = .ok (.istore_n 2, 1) := by decide +kernel
theorem dX8_land_4 : decode cX8_land 4 = .ok (.iconst 0, 1) := by decide +kernel
theorem dX8_land_5 : decode cX8_land 5 = .ok (.istore_n 3, 1) := by decide +kernel
theorem dX8_land_6 : decode cX8_land 6 = .ok (.iload_n 3, 1) := by decide +kernel
theorem dX8_land_7 : decode cX8_land 7 = .ok (.aload_n 0, 1) := by decide +kernel
theorem dX8_land_8 : decode cX8_land 8 = .ok (.getfield 28, 3) := by decide +kernel
theorem dX8_land_11 : decode cX8_land 11 = .ok (.invokevirtual 45, 3) := by decide +kernel
theorem dX8_land_14 : decode cX8_land 14 = .ok (.if_icmp .ge 121, 3) := by decide +kernel
theorem dX8_land_17 : decode cX8_land 17 = .ok (.aload_n 0, 1) := by decide +kernel
theorem dX8_land_18 : decode cX8_land 18 = .ok (.getfield 28, 3) := by decide +kernel
theorem dX8_land_21 : decode cX8_land 21 = .ok (.iload_n 3, 1) := by decide +kernel
theorem dX8_land_22 : decode cX8_land 22 = .ok (.invokevirtual 49, 3) := by decide +kernel
theorem dX8_land_25 : decode cX8_land 25 = .ok (.checkcast 143, 3) := by decide +kernel
theorem dX8_land_28 : decode cX8_land 28 = .ok (.astore 4, 2) := by decide +kernel
theorem dX8_land_30 : decode cX8_land 30 = .ok (.aload 4, 2) := by decide +kernel
theorem dX8_land_32 : decode cX8_land 32 = .ok (.iconst 0, 1) := by decide +kernel
theorem dX8_land_33 : decode cX8_land 33 = .ok (.iaload, 1) := by decide +kernel
theorem dX8_land_34 : decode cX8_land 34 = .ok (.aload_n 0, 1) := by decide +kernel
theorem dX8_land_35 : decode cX8_land 35 = .ok (.getfield 32, 3) := by decide +kernel
theorem dX8_land_38 : decode cX8_land 38 = .ok (.if_icmp .eq 20, 3) := by decide +kernel
theorem dX8_land_41 : decode cX8_land 41 = .ok (.aload_n 0, 1) := by decide +kernel
theorem dX8_land_42 : decode cX8_land 42 = .ok (.getfield 28, 3) := by decide +kernel
theorem dX8_land_45 : decode cX8_land 45 = .ok (.iload_n 2, 1) := by decide +kernel
theorem dX8_land_46 : decode cX8_land 46 = .ok (.iinc 2 1, 3) := by decide +kernel
theorem dX8_land_49 : decode cX8_land 49 = .ok (.aload 4, 2) := by decide +kernel
theorem dX8_land_51 : decode cX8_land 51 = .ok (.invokevirtual 145, 3) := by decide +kernel
theorem dX8_land_54 : decode cX8_land 54 = .ok (.pop, 1) := by decide +kernel
theorem dX8_land_55 : decode cX8_land 55 = .ok (.goto 74, 3) := by decide +kernel
theorem dX8_land_58 : decode cX8_land 58 = .ok (.iload_n 1, 1) := by decide +kernel
theorem dX8_land_59 : decode cX8_land 59 = .ok (.aload 4, 2) := by decide +kernel
theorem dX8_land_61 : decode cX8_land 61 = .ok (.iconst 2, 1) := by decide +kernel
theorem dX8_land_62 : decode cX8_land 62 = .ok (.iaload, 1) := by decide +kernel
theorem dX8_land_63 : decode cX8_land 63 = .ok (.iadd, 1) := by decide +kernel
theorem dX8_land_64 : decode cX8_land 64 = .ok (.istore_n 1, 1) := by decide +kernel
theorem dX8_land_65 : decode cX8_land 65 = .ok (.aload 4, 2) := by decide +kernel
theorem dX8_land_67 : decode cX8_land 67 = .ok (.iconst 1, 1) := by decide +kernel
theorem dX8_land_68 : decode cX8_land 68 = .ok (.iaload, 1) := by decide +kernel
theorem dX8_land_69 : decode cX8_land 69 = .ok (.iconst 0, 1) := by decide +kernel
theorem dX8_land_70 : decode cX8_land 70 = .ok (.bipush 19, 2) := by decide +kernel
theorem dX8_land_72 : decode cX8_land 72 = .ok (.invokestatic 148, 3) := by decide +kernel
theorem dX8_land_75 : decode cX8_land 75 = .ok (.ifCond .eq 14, 3) := by decide +kernel
theorem dX8_land_78 : decode cX8_land 78 = .ok (.aload_n 0, 1) := by decide +kernel
theorem dX8_land_79 : decode cX8_land 79 = .ok (.aload 4, 2) := by decide +kernel
theorem dX8_land_81 : decode cX8_land 81 = .ok (.iconst 2, 1) := by decide +kernel
theorem dX8_land_82 : decode cX8_land 82 = .ok (.iaload, 1) := by decide +kernel
theorem dX8_land_83 : decode cX8_land 83 = .ok (.invokevirtual 152, 3) := by decide +kernel
theorem dX8_land_86 : decode cX8_land 86 = .ok (.goto 43, 3) := by decide +kernel
theorem dX8_land_89 : decode cX8_land 89 = .ok (.aload_n 0, 1) := by decide +kernel
theorem dX8_land_90 : decode cX8_land 90 = .ok (.dup, 1) := by decide +kernel
theorem dX8_land_91 : decode cX8_land 91 = .ok (.getfield 155, 3) := by decide +kernel
theorem dX8_land_94 : decode cX8_land 94 = .ok (.aload 4, 2) := by decide +kernel
theorem dX8_land_96 : decode cX8_land 96 = .ok (.iconst 2, 1) := by decide +kernel
theorem dX8_land_97 : decode cX8_land 97 = .ok (.iaload, 1) := by decide +kernel
theorem dX8_land_98 : decode cX8_land 98 = .ok (.iadd, 1) := by decide +kernel
theorem dX8_land_99 : decode cX8_land 99 = .ok (.putfield 155, 3) := by decide +kernel
theorem dX8_land_102 : decode cX8_land 102 = .ok (.aload 4, 2) := by decide +kernel
theorem dX8_land_104 : decode cX8_land 104 = .ok (.iconst 1, 1) := by decide +kernel
theorem dX8_land_105 : decode cX8_land 105 = .ok (.iaload, 1) := by decide +kernel
theorem dX8_land_106 : decode cX8_land 106 = .ok (.bipush (-4), 2) := by decide +kernel
theorem dX8_land_108 : decode cX8_land 108 = .ok (.bipush 23, 2) := by decide +kernel
theorem dX8_land_110 : decode cX8_land 110 = .ok (.invokestatic 148, 3) := by decide +kernel
theorem dX8_land_113 : decode cX8_land 113 = .ok (.ifCond .eq 16, 3) := by decide +kernel
theorem dX8_land_116 : decode cX8_land 116 = .ok (.aload_n 0, 1) := by decide +kernel
theorem dX8_land_117 : decode cX8_land 117 = .ok (.dup, 1) := by decide +kernel
theorem dX8_land_118 : decode cX8_land 118 = .ok (.getfield 158, 3) := by decide +kernel
theorem dX8_land_121 : decode cX8_land 121 = .ok (.aload 4, 2) := by decide +kernel
theorem dX8_land_123 : decode cX8_land 123 = .ok (.iconst 2, 1) := by decide +kernel
theorem dX8_land_124 : decode cX8_land 124 = .ok (.iaload, 1) := by decide +kernel
theorem dX8_land_125 : decode cX8_land 125 = .ok (.iadd, 1) := by decide +kernel
theorem dX8_land_126 : decode cX8_land 126 = .ok (.putfield 158, 3) := by decide +kernel
theorem dX8_land_129 : decode cX8_land 129 = .ok (.iinc 3 1, 3) := by decide +kernel
theorem dX8_land_132 : decode cX8_land 132 = .ok (.goto (-126), 3) := by decide +kernel
theorem dX8_land_135 : decode cX8_land 135 = .ok (.aload_n 0, 1) := by decide +kernel
theorem dX8_land_136 : decode cX8_land 136 = .ok (.getfield 28, 3) := by decide +kernel
theorem dX8_land_139 : decode cX8_land 139 = .ok (.invokevirtual 45, 3) := by decide +kernel
theorem dX8_land_142 : decode cX8_land 142 = .ok (.iload_n 2, 1) := by decide +kernel
theorem dX8_land_143 : decode cX8_land 143 = .ok (.if_icmp .le 23, 3) := by decide +kernel
theorem dX8_land_146 : decode cX8_land 146 = .ok (.aload_n 0, 1) := by decide +kernel
theorem dX8_land_147 : decode cX8_land 147 = .ok (.getfield 28, 3) := by decide +kernel
theorem dX8_land_150 : decode cX8_land 150 = .ok (.aload_n 0, 1) := by decide +kernel
theorem dX8_land_151 : decode cX8_land 151 = .ok (.getfield 28, 3) := by decide +kernel
theorem dX8_land_154 : decode cX8_land 154 = .ok (.invokevirtual 45, 3) := by decide +kernel
theorem dX8_land_157 : decode cX8_land 157 = .ok (.iconst 1, 1) := by decide +kernel
theorem dX8_land_158 : decode cX8_land 158 = .ok (.isub, 1) := by decide +kernel
theorem dX8_land_159 : decode cX8_land 159 = .ok (.invokevirtual 161, 3) := by decide +kernel
theorem dX8_land_162 : decode cX8_land 162 = .ok (.pop, 1) := by decide +kernel
theorem dX8_land_163 : decode cX8_land 163 = .ok (.goto (-28), 3) := by decide +kernel
theorem dX8_land_166 : decode cX8_land 166 = .ok (.iload_n 1, 1) := by decide +kernel
theorem dX8_land_167 : decode cX8_land 167 = .ok (.ireturn, 1) := by decide +kernel
theorem dX8_rise_0 : decode cX8_rise 0 = .ok (.iconst 0, 1) := by decide +kernel
theorem dX8_rise_1 : decode cX8_rise 1 = .ok (.istore_n 1, 1) := by decide +kernel
theorem dX8_rise_2 : decode cX8_rise 2 = .ok (.iload_n 1, 1) := by decide +kernel
theorem dX8_rise_3 : decode cX8_rise 3 = .ok (.aload_n 0, 1) := by decide +kernel
theorem dX8_rise_4 : decode cX8_rise 4 = .ok (.getfield 22, 3) := by decide +kernel
theorem dX8_rise_7 : decode cX8_rise 7 = .ok (.invokevirtual 45, 3) := by decide +kernel
theorem dX8_rise_10 : decode cX8_rise 10 = .ok (.if_icmp .ge 115, 3) := by decide +kernel
theorem dX8_rise_13 : decode cX8_rise 13 = .ok (.aload_n 0, 1) := by decide +kernel
theorem dX8_rise_14 : decode cX8_rise 14 = .ok (.iload_n 1, 1) := by decide +kernel
theorem dX8_rise_15 : decode cX8_rise 15 = .ok (.invokevirtual 97, 3) := by decide +kernel
theorem dX8_rise_18 : decode cX8_rise 18 = .ok (.ifCond .ne 6, 3) := by decide +kernel
theorem dX8_rise_21 : decode cX8_rise 21 = .ok (.goto 98, 3) := by decide +kernel
theorem dX8_rise_24 : decode cX8_rise 24 = .ok (.aload_n 0, 1) := by decide +kernel
theorem dX8_rise_25 : decode cX8_rise 25 = .ok (.getfield 9, 3) := by decide +kernel
theorem dX8_rise_28 : decode cX8_rise 28 = .ok (.aload_n 0, 1) := by decide +kernel
theorem dX8_rise_29 : decode cX8_rise 29 = .ok (.getfield 22, 3) := by decide +kernel
theorem dX8_rise_32 : decode cX8_rise 32 = .ok (.iload_n 1, 1) := by decide +kernel
theorem dX8_rise_33 : decode cX8_rise 33 = .ok (.invokevirtual 49, 3) := by decide +kernel
theorem dX8_rise_36 : decode cX8_rise 36 = .ok (.checkcast 63, 3) := by decide +kernel
theorem dX8_rise_39 : decode cX8_rise 39 = .ok (.invokevirtual 75, 3) := by decide +kernel
theorem dX8_rise_42 : decode cX8_rise 42 = .ok (.invokestatic 91, 3) := by decide +kernel
theorem dX8_rise_45 : decode cX8_rise 45 = .ok (.istore_n 2, 1) := by decide +kernel
theorem dX8_rise_46 : decode cX8_rise 46 = .ok (.iload_n 2, 1) := by decide +kernel
theorem dX8_rise_47 : decode cX8_rise 47 = .ok (.ifCond .ne 6, 3) := by decide +kernel
theorem dX8_rise_50 : decode cX8_rise 50 = .ok (.goto 69, 3) := by decide +kernel
theorem dX8_rise_53 : decode cX8_rise 53 = .ok (.aload_n 0, 1) := by decide +kernel
theorem dX8_rise_54 : decode cX8_rise 54 = .ok (.dup, 1) := by decide +kernel
theorem dX8_rise_55 : decode cX8_rise 55 = .ok (.getfield 9, 3) := by decide +kernel
theorem dX8_rise_58 : decode cX8_rise 58 = .ok (.iload_n 2, 1) := by decide +kernel
theorem dX8_rise_59 : decode cX8_rise 59 = .ok (.isub, 1) := by decide +kernel
theorem dX8_rise_60 : decode cX8_rise 60 = .ok (.putfield 9, 3) := by decide +kernel
theorem dX8_rise_63 : decode cX8_rise 63 = .ok (.aload_n 0, 1) := by decide +kernel
theorem dX8_rise_64 : decode cX8_rise 64 = .ok (.getfield 22, 3) := by decide +kernel
theorem dX8_rise_67 : decode cX8_rise 67 = .ok (.iload_n 1, 1) := by decide +kernel
theorem dX8_rise_68 : decode cX8_rise 68 = .ok (.invokevirtual 49, 3) := by decide +kernel
theorem dX8_rise_71 : decode cX8_rise 71 = .ok (.checkcast 63, 3) := by decide +kernel
theorem dX8_rise_74 : decode cX8_rise 74 = .ok (.dup, 1) := by decide +kernel
theorem dX8_rise_75 : decode cX8_rise 75 = .ok (.getfield 164, 3) := by decide +kernel
theorem dX8_rise_78 : decode cX8_rise 78 = .ok (.iload_n 2, 1) := by decide +kernel
theorem dX8_rise_79 : decode cX8_rise 79 = .ok (.iadd, 1) := by decide +kernel
theorem dX8_rise_80 : decode cX8_rise 80 = .ok (.putfield 164, 3) := by decide +kernel
theorem dX8_rise_83 : decode cX8_rise 83 = .ok (.aload_n 0, 1) := by decide +kernel
theorem dX8_rise_84 : decode cX8_rise 84 = .ok (.getfield 28, 3) := by decide +kernel
theorem dX8_rise_87 : decode cX8_rise 87 = .ok (.iconst 3, 1) := by decide +kernel
theorem dX8_rise_88 : decode cX8_rise 88 = .ok (.newarray .int, 2) := by decide +kernel
theorem dX8_rise_90 : decode cX8_rise 90 = .ok (.dup, 1) := by decide +kernel
theorem dX8_rise_91 : decode cX8_rise 91 = .ok (.iconst 0, 1) := by decide +kernel
theorem dX8_rise_92 : decode cX8_rise 92 = .ok (.aload_n 0, 1) := by decide +kernel
theorem dX8_rise_93 : decode cX8_rise 93 = .ok (.getfield 32, 3) := by decide +kernel
theorem dX8_rise_96 : decode cX8_rise 96 = .ok (.aload_n 0, 1) := by decide +kernel
theorem dX8_rise_97 : decode cX8_rise 97 = .ok (.iload_n 1, 1) := by decide +kernel
theorem dX8_rise_98 : decode cX8_rise 98 = .ok (.invokevirtual 109, 3) := by decide +kernel
theorem dX8_rise_101 : decode cX8_rise 101 = .ok (.iadd, 1) := by decide +kernel
theorem dX8_rise_102 : decode cX8_rise 102 = .ok (.iastore, 1) := by decide +kernel
theorem dX8_rise_103 : decode cX8_rise 103 = .ok (.dup, 1) := by decide +kernel
theorem dX8_rise_104 : decode cX8_rise 104 = .ok (.iconst 1, 1) := by decide +kernel
theorem dX8_rise_105 : decode cX8_rise 105 = .ok (.aload_n 0, 1) := by decide +kernel
theorem dX8_rise_106 : decode cX8_rise 106 = .ok (.iload_n 1, 1) := by decide +kernel
theorem dX8_rise_107 : decode cX8_rise 107 = .ok (.invokevirtual 167, 3) := by decide +kernel
theorem dX8_rise_110 : decode cX8_rise 110 = .ok (.iastore, 1) := by decide +kernel
theorem dX8_rise_111 : decode cX8_rise 111 = .ok (.dup, 1) := by decide +kernel
theorem dX8_rise_112 : decode cX8_rise 112 = .ok (.iconst 2, 1) := by decide +kernel
theorem dX8_rise_113 : decode cX8_rise 113 = .ok (.iload_n 2, 1) := by decide +kernel
theorem dX8_rise_114 : decode cX8_rise 114 = .ok (.iastore, 1) := by decide +kernel
theorem dX8_rise_115 : decode cX8_rise 115 = .ok (.invokevirtual 59, 3) := by decide +kernel
theorem dX8_rise_118 : decode cX8_rise 118 = .ok (.pop, 1) := by decide +kernel
theorem dX8_rise_119 : decode cX8_rise 119 = .ok (.iinc 1 1, 3) := by decide +kernel
theorem dX8_rise_122 : decode cX8_rise 122 = .ok (.goto (-120), 3) := by decide +kernel
theorem dX8_rise_125 : decode cX8_rise 125 = .ok (.return_, 1) := by decide +kernel
theorem dX8_lamps_0 : decode cX8_lamps 0 = .ok (.iconst 0, 1) := by decide +kernel
theorem dX8_lamps_1 : decode cX8_lamps 1 = .ok (.istore_n 1, 1) := by decide +kernel
theorem dX8_lamps_2 : decode cX8_lamps 2 = .ok (.iconst 0, 1) := by decide +kernel
theorem dX8_lamps_3 : decode cX8_lamps 3 = .ok (.istore_n 2, 1) := by decide +kernel
theorem dX8_lamps_4 : decode cX8_lamps 4 = .ok (.iload_n 2, 1) := by decide +kernel
theorem dX8_lamps_5 : decode cX8_lamps 5 = .ok (.aload_n 0, 1) := by decide +kernel
theorem dX8_lamps_6 : decode cX8_lamps 6 = .ok (.getfield 22, 3) := by decide +kernel
theorem dX8_lamps_9 : decode cX8_lamps 9 = .ok (.invokevirtual 45, 3) := by decide +kernel
theorem dX8_lamps_12 : decode cX8_lamps 12 = .ok (.if_icmp .ge 51, 3) := by decide +kernel
theorem dX8_lamps_15 : decode cX8_lamps 15 = .ok (.iload_n 1, 1) := by decide +kernel
theorem dX8_lamps_16 : decode cX8_lamps 16 = .ok (.aload_n 0, 1) := by decide +kernel
theorem dX8_lamps_17 : decode cX8_lamps 17 = .ok (.getfield 22, 3) := by decide +kernel
theorem dX8_lamps_20 : decode cX8_lamps 20 = .ok (.iload_n 2, 1) := by decide +kernel
theorem dX8_lamps_21 : decode cX8_lamps 21 = .ok (.invokevirtual 49, 3) := by decide +kernel
theorem dX8_lamps_24 : decode cX8_lamps 24 = .ok (.checkcast 63, 3) := by decide +kernel
theorem dX8_lamps_27 : decode cX8_lamps 27 = .ok (.getfield 121, 3) := by decide +kernel
theorem dX8_lamps_30 : decode cX8_lamps 30 = .ok (.ifCond .eq 24, 3) := by decide +kernel
theorem dX8_lamps_33 : decode cX8_lamps 33 = .ok (.aload_n 0, 1) := by decide +kernel
theorem dX8_lamps_34 : decode cX8_lamps 34 = .ok (.getfield 22, 3) := by decide +kernel
theorem dX8_lamps_37 : decode cX8_lamps 37 = .ok (.iload_n 2, 1) := by decide +kernel
theorem dX8_lamps_38 : decode cX8_lamps 38 = .ok (.invokevirtual 49, 3) := by decide +kernel
theorem dX8_lamps_41 : decode cX8_lamps 41 = .ok (.checkcast 63, 3) := by decide +kernel
theorem dX8_lamps_44 : decode cX8_lamps 44 = .ok (.getfield 170, 3) := by decide +kernel
theorem dX8_lamps_47 : decode cX8_lamps 47 = .ok (.ifCond .eq 7, 3) := by decide +kernel
theorem dX8_lamps_50 : decode cX8_lamps 50 = .ok (.iconst 1, 1) := by decide +kernel
theorem dX8_lamps_51 : decode cX8_lamps 51 = .ok (.goto 4, 3) := by decide +kernel
theorem dX8_lamps_54 : decode cX8_lamps 54 = .ok (.iconst 0, 1) := by decide +kernel
theorem dX8_lamps_55 : decode cX8_lamps 55 = .ok (.iadd, 1) := by decide +kernel
theorem dX8_lamps_56 : decode cX8_lamps 56 = .ok (.istore_n 1, 1) := by decide +kernel
theorem dX8_lamps_57 : decode cX8_lamps 57 = .ok (.iinc 2 1, 3) := by decide +kernel
theorem dX8_lamps_60 : decode cX8_lamps 60 = .ok (.goto (-56), 3) := by decide +kernel
theorem dX8_lamps_63 : decode cX8_lamps 63 = .ok (.iload_n 1, 1) := by decide +kernel
theorem dX8_lamps_64 : decode cX8_lamps 64 = .ok (.ifCond .ne 4, 3) := by decide +kernel
theorem dX8_lamps_67 : decode cX8_lamps 67 = .ok (.return_, 1) := by decide +kernel
theorem dX8_lamps_68 : decode cX8_lamps 68 = .ok (.aload_n 0, 1) := by decide +kernel
theorem dX8_lamps_69 : decode cX8_lamps 69 = .ok (.dup, 1) := by decide +kernel
theorem dX8_lamps_70 : decode cX8_lamps 70 = .ok (.getfield 173, 3) := by decide +kernel
theorem dX8_lamps_73 : decode cX8_lamps 73 = .ok (.iload_n 1, 1) := by decide +kernel
theorem dX8_lamps_74 : decode cX8_lamps 74 = .ok (.iadd, 1) := by decide +kernel
theorem dX8_lamps_75 : decode cX8_lamps 75 = .ok (.putfield 173, 3) := by decide +kernel
theorem dX8_lamps_78 : decode cX8_lamps 78 = .ok (.aload_n 0, 1) := by decide +kernel
theorem dX8_lamps_79 : decode cX8_lamps 79 = .ok (.dup, 1) := by decide +kernel
theorem dX8_lamps_80 : decode cX8_lamps 80 = .ok (.getfield 176, 3) := by decide +kernel
theorem dX8_lamps_83 : decode cX8_lamps 83 = .ok (.aload_n 0, 1) := by decide +kernel
theorem dX8_lamps_84 : decode cX8_lamps 84 = .ok (.getfield 41, 3) := by decide +kernel
theorem dX8_lamps_87 : decode cX8_lamps 87 = .ok (.ifCond .eq 7, 3) := by decide +kernel
theorem dX8_lamps_90 : decode cX8_lamps 90 = .ok (.iconst 1, 1) := by decide +kernel
theorem dX8_lamps_91 : decode cX8_lamps 91 = .ok (.goto 4, 3) := by decide +kernel
theorem dX8_lamps_94 : decode cX8_lamps 94 = .ok (.iconst 0, 1) := by decide +kernel
theorem dX8_lamps_95 : decode cX8_lamps 95 = .ok (.iadd, 1) := by decide +kernel
theorem dX8_lamps_96 : decode cX8_lamps 96 = .ok (.putfield 176, 3) := by decide +kernel
theorem dX8_lamps_99 : decode cX8_lamps 99 = .ok (.aload_n 0, 1) := by decide +kernel
theorem dX8_lamps_100 : decode cX8_lamps 100 = .ok (.invokevirtual 179, 3) := by decide +kernel
theorem dX8_lamps_103 : decode cX8_lamps 103 = .ok (.return_, 1) := by decide +kernel
theorem dX8_allOff_0 : decode cX8_allOff 0 = .ok (.iconst 0, 1) := by decide +kernel
theorem dX8_allOff_1 : decode cX8_allOff 1 = .ok (.istore_n 1, 1) := by decide +kernel
theorem dX8_allOff_2 : decode cX8_allOff 2 = .ok (.iload_n 1, 1) := by decide +kernel
theorem dX8_allOff_3 : decode cX8_allOff 3 = .ok (.aload_n 0, 1) := by decide +kernel
theorem dX8_allOff_4 : decode cX8_allOff 4 = .ok (.getfield 22, 3) := by decide +kernel
theorem dX8_allOff_7 : decode cX8_allOff 7 = .ok (.invokevirtual 45, 3) := by decide +kernel
theorem dX8_allOff_10 : decode cX8_allOff 10 = .ok (.if_icmp .ge 24, 3) := by decide +kernel
theorem dX8_allOff_13 : decode cX8_allOff 13 = .ok (.aload_n 0, 1) := by decide +kernel
theorem dX8_allOff_14 : decode cX8_allOff 14 = .ok (.getfield 22, 3) := by decide +kernel
theorem dX8_allOff_17 : decode cX8_allOff 17 = .ok (.iload_n 1, 1) := by decide +kernel
theorem dX8_allOff_18 : decode cX8_allOff 18 = .ok (.invokevirtual 49, 3) := by decide +kernel
theorem dX8_allOff_21 : decode cX8_allOff 21 = .ok (.checkcast 63, 3) := by decide +kernel
theorem dX8_allOff_24 : decode cX8_allOff 24 = .ok (.iconst 0, 1) := by decide +kernel
theorem dX8_allOff_25 : decode cX8_allOff 25 = .ok (.putfield 121, 3) := by decide +kernel
theorem dX8_allOff_28 : decode cX8_allOff 28 = .ok (.iinc 1 1, 3) := by decide +kernel
theorem dX8_allOff_31 : decode cX8_allOff 31 = .ok (.goto (-29), 3) := by decide +kernel
theorem dX8_allOff_34 : decode cX8_allOff 34 = .ok (.return_, 1) := by decide +kernel
theorem dX8_tick_0 : decode cX8_tick 0 = .ok (.aload_n 0, 1) := by decide +kernel
theorem dX8_tick_1 : decode cX8_tick 1 = .ok (.dup, 1) := by decide +kernel
theorem dX8_tick_2 : decode cX8_tick 2 = .ok (.getfield 32, 3) := by decide +kernel
theorem dX8_tick_5 : decode cX8_tick 5 = .ok (.iconst 1, 1) := by decide +kernel
theorem dX8_tick_6 : decode cX8_tick 6 = .ok (.iadd, 1) := by decide +kernel
theorem dX8_tick_7 : decode cX8_tick 7 = .ok (.putfield 32, 3) := by decide +kernel
theorem dX8_tick_10 : decode cX8_tick 10 = .ok (.aload_n 0, 1) := by decide +kernel
theorem dX8_tick_11 : decode cX8_tick 11 = .ok (.getfield 41, 3) := by decide +kernel
theorem dX8_tick_14 : decode cX8_tick 14 = .ok (.ifCond .ne 7, 3) := by decide +kernel
theorem dX8_tick_17 : decode cX8_tick 17 = .ok (.aload_n 0, 1) := by decide +kernel
theorem dX8_tick_18 : decode cX8_tick 18 = .ok (.invokevirtual 182, 3) := by decide +kernel
theorem dX8_tick_21 : decode cX8_tick 21 = .ok (.iconst 0, 1) := by decide +kernel
theorem dX8_tick_22 : decode cX8_tick 22 = .ok (.istore_n 1, 1) := by decide +kernel
theorem dX8_tick_23 : decode cX8_tick 23 = .ok (.iload_n 1, 1) := by decide +kernel
theorem dX8_tick_24 : decode cX8_tick 24 = .ok (.aload_n 0, 1) := by decide +kernel
theorem dX8_tick_25 : decode cX8_tick 25 = .ok (.getfield 18, 3) := by decide +kernel
theorem dX8_tick_28 : decode cX8_tick 28 = .ok (.invokevirtual 45, 3) := by decide +kernel
theorem dX8_tick_31 : decode cX8_tick 31 = .ok (.if_icmp .ge 71, 3) := by decide +kernel
theorem dX8_tick_34 : decode cX8_tick 34 = .ok (.aload_n 0, 1) := by decide +kernel
theorem dX8_tick_35 : decode cX8_tick 35 = .ok (.getfield 18, 3) := by decide +kernel
theorem dX8_tick_38 : decode cX8_tick 38 = .ok (.iload_n 1, 1) := by decide +kernel
theorem dX8_tick_39 : decode cX8_tick 39 = .ok (.invokevirtual 49, 3) := by decide +kernel
theorem dX8_tick_42 : decode cX8_tick 42 = .ok (.checkcast 53, 3) := by decide +kernel
theorem dX8_tick_45 : decode cX8_tick 45 = .ok (.getfield 184, 3) := by decide +kernel
theorem dX8_tick_48 : decode cX8_tick 48 = .ok (.ifCond .ne 48, 3) := by decide +kernel
theorem dX8_tick_51 : decode cX8_tick 51 = .ok (.aload_n 0, 1) := by decide +kernel
theorem dX8_tick_52 : decode cX8_tick 52 = .ok (.getfield 18, 3) := by decide +kernel
theorem dX8_tick_55 : decode cX8_tick 55 = .ok (.iload_n 1, 1) := by decide +kernel
theorem dX8_tick_56 : decode cX8_tick 56 = .ok (.invokevirtual 49, 3) := by decide +kernel
theorem dX8_tick_59 : decode cX8_tick 59 = .ok (.checkcast 53, 3) := by decide +kernel
theorem dX8_tick_62 : decode cX8_tick 62 = .ok (.aload_n 0, 1) := by decide +kernel
theorem dX8_tick_63 : decode cX8_tick 63 = .ok (.getfield 18, 3) := by decide +kernel
theorem dX8_tick_66 : decode cX8_tick 66 = .ok (.iload_n 1, 1) := by decide +kernel
theorem dX8_tick_67 : decode cX8_tick 67 = .ok (.invokevirtual 49, 3) := by decide +kernel
theorem dX8_tick_70 : decode cX8_tick 70 = .ok (.checkcast 53, 3) := by decide +kernel
theorem dX8_tick_73 : decode cX8_tick 73 = .ok (.getfield 78, 3) := by decide +kernel
theorem dX8_tick_76 : decode cX8_tick 76 = .ok (.aload_n 0, 1) := by decide +kernel
theorem dX8_tick_77 : decode cX8_tick 77 = .ok (.getfield 18, 3) := by decide +kernel
theorem dX8_tick_80 : decode cX8_tick 80 = .ok (.iload_n 1, 1) := by decide +kernel
theorem dX8_tick_81 : decode cX8_tick 81 = .ok (.invokevirtual 49, 3) := by decide +kernel
theorem dX8_tick_84 : decode cX8_tick 84 = .ok (.checkcast 53, 3) := by decide +kernel
theorem dX8_tick_87 : decode cX8_tick 87 = .ok (.getfield 187, 3) := by decide +kernel
theorem dX8_tick_90 : decode cX8_tick 90 = .ok (.invokestatic 190, 3) := by decide +kernel
theorem dX8_tick_93 : decode cX8_tick 93 = .ok (.putfield 78, 3) := by decide +kernel
theorem dX8_tick_96 : decode cX8_tick 96 = .ok (.iinc 1 1, 3) := by decide +kernel
theorem dX8_tick_99 : decode cX8_tick 99 = .ok (.goto (-76), 3) := by decide +kernel
theorem dX8_tick_102 : decode cX8_tick 102 = .ok (.iconst 0, 1) := by decide +kernel
theorem dX8_tick_103 : decode cX8_tick 103 = .ok (.istore_n 1, 1) := by decide +kernel
theorem dX8_tick_104 : decode cX8_tick 104 = .ok (.iload_n 1, 1) := by decide +kernel
theorem dX8_tick_105 : decode cX8_tick 105 = .ok (.aload_n 0, 1) := by decide +kernel
theorem dX8_tick_106 : decode cX8_tick 106 = .ok (.getfield 22, 3) := by decide +kernel
theorem dX8_tick_109 : decode cX8_tick 109 = .ok (.invokevirtual 45, 3) := by decide +kernel
theorem dX8_tick_112 : decode cX8_tick 112 = .ok (.if_icmp .ge 71, 3) := by decide +kernel
theorem dX8_tick_115 : decode cX8_tick 115 = .ok (.aload_n 0, 1) := by decide +kernel
theorem dX8_tick_116 : decode cX8_tick 116 = .ok (.getfield 22, 3) := by decide +kernel
theorem dX8_tick_119 : decode cX8_tick 119 = .ok (.iload_n 1, 1) := by decide +kernel
theorem dX8_tick_120 : decode cX8_tick 120 = .ok (.invokevirtual 49, 3) := by decide +kernel
theorem dX8_tick_123 : decode cX8_tick 123 = .ok (.checkcast 63, 3) := by decide +kernel
theorem dX8_tick_126 : decode cX8_tick 126 = .ok (.getfield 193, 3) := by decide +kernel
theorem dX8_tick_129 : decode cX8_tick 129 = .ok (.ifCond .ne 48, 3) := by decide +kernel
theorem dX8_tick_132 : decode cX8_tick 132 = .ok (.aload_n 0, 1) := by decide +kernel
theorem dX8_tick_133 : decode cX8_tick 133 = .ok (.getfield 22, 3) := by decide +kernel
theorem dX8_tick_136 : decode cX8_tick 136 = .ok (.iload_n 1, 1) := by decide +kernel
theorem dX8_tick_137 : decode cX8_tick 137 = .ok (.invokevirtual 49, 3) := by decide +kernel
theorem dX8_tick_140 : decode cX8_tick 140 = .ok (.checkcast 63, 3) := by decide +kernel
theorem dX8_tick_143 : decode cX8_tick 143 = .ok (.aload_n 0, 1) := by decide +kernel
theorem dX8_tick_144 : decode cX8_tick 144 = .ok (.getfield 22, 3) := by decide +kernel
theorem dX8_tick_147 : decode cX8_tick 147 = .ok (.iload_n 1, 1) := by decide +kernel
theorem dX8_tick_148 : decode cX8_tick 148 = .ok (.invokevirtual 49, 3) := by decide +kernel
theorem dX8_tick_151 : decode cX8_tick 151 = .ok (.checkcast 63, 3) := by decide +kernel
theorem dX8_tick_154 : decode cX8_tick 154 = .ok (.getfield 88, 3) := by decide +kernel
theorem dX8_tick_157 : decode cX8_tick 157 = .ok (.aload_n 0, 1) := by decide +kernel
theorem dX8_tick_158 : decode cX8_tick 158 = .ok (.getfield 22, 3) := by decide +kernel
theorem dX8_tick_161 : decode cX8_tick 161 = .ok (.iload_n 1, 1) := by decide +kernel
theorem dX8_tick_162 : decode cX8_tick 162 = .ok (.invokevirtual 49, 3) := by decide +kernel
theorem dX8_tick_165 : decode cX8_tick 165 = .ok (.checkcast 63, 3) := by decide +kernel
theorem dX8_tick_168 : decode cX8_tick 168 = .ok (.getfield 118, 3) := by decide +kernel
theorem dX8_tick_171 : decode cX8_tick 171 = .ok (.invokestatic 190, 3) := by decide +kernel
theorem dX8_tick_174 : decode cX8_tick 174 = .ok (.putfield 88, 3) := by decide +kernel
theorem dX8_tick_177 : decode cX8_tick 177 = .ok (.iinc 1 1, 3) := by decide +kernel
theorem dX8_tick_180 : decode cX8_tick 180 = .ok (.goto (-76), 3) := by decide +kernel
theorem dX8_tick_183 : decode cX8_tick 183 = .ok (.aload_n 0, 1) := by decide +kernel
theorem dX8_tick_184 : decode cX8_tick 184 = .ok (.invokevirtual 196, 3) := by decide +kernel
theorem dX8_tick_187 : decode cX8_tick 187 = .ok (.istore_n 1, 1) := by decide +kernel
theorem dX8_tick_188 : decode cX8_tick 188 = .ok (.aload_n 0, 1) := by decide +kernel
theorem dX8_tick_189 : decode cX8_tick 189 = .ok (.invokevirtual 199, 3) := by decide +kernel
theorem dX8_tick_192 : decode cX8_tick 192 = .ok (.iconst 0, 1) := by decide +kernel
theorem dX8_tick_193 : decode cX8_tick 193 = .ok (.istore_n 2, 1) := by decide +kernel
theorem dX8_tick_194 : decode cX8_tick 194 = .ok (.iload_n 2, 1) := by decide +kernel
theorem dX8_tick_195 : decode cX8_tick 195 = .ok (.aload_n 0, 1) := by decide +kernel
theorem dX8_tick_196 : decode cX8_tick 196 = .ok (.getfield 18, 3) := by decide +kernel
theorem dX8_tick_199 : decode cX8_tick 199 = .ok (.invokevirtual 45, 3) := by decide +kernel
theorem dX8_tick_202 : decode cX8_tick 202 = .ok (.if_icmp .ge 47, 3) := by decide +kernel
theorem dX8_tick_205 : decode cX8_tick 205 = .ok (.aload_n 0, 1) := by decide +kernel
theorem dX8_tick_206 : decode cX8_tick 206 = .ok (.dup, 1) := by decide +kernel
theorem dX8_tick_207 : decode cX8_tick 207 = .ok (.getfield 202, 3) := by decide +kernel
theorem dX8_tick_210 : decode cX8_tick 210 = .ok (.aload_n 0, 1) := by decide +kernel
theorem dX8_tick_211 : decode cX8_tick 211 = .ok (.getfield 18, 3) := by decide +kernel
theorem dX8_tick_214 : decode cX8_tick 214 = .ok (.iload_n 2, 1) := by decide +kernel
theorem dX8_tick_215 : decode cX8_tick 215 = .ok (.invokevirtual 49, 3) := by decide +kernel
theorem dX8_tick_218 : decode cX8_tick 218 = .ok (.checkcast 53, 3) := by decide +kernel
theorem dX8_tick_221 : decode cX8_tick 221 = .ok (.getfield 78, 3) := by decide +kernel
theorem dX8_tick_224 : decode cX8_tick 224 = .ok (.aload_n 0, 1) := by decide +kernel
theorem dX8_tick_225 : decode cX8_tick 225 = .ok (.getfield 18, 3) := by decide +kernel
theorem dX8_tick_228 : decode cX8_tick 228 = .ok (.iload_n 2, 1) := by decide +kernel
theorem dX8_tick_229 : decode cX8_tick 229 = .ok (.invokevirtual 49, 3) := by decide +kernel
theorem dX8_tick_232 : decode cX8_tick 232 = .ok (.checkcast 53, 3) := by decide +kernel
theorem dX8_tick_235 : decode cX8_tick 235 = .ok (.getfield 78, 3) := by decide +kernel
theorem dX8_tick_238 : decode cX8_tick 238 = .ok (.imul, 1) := by decide +kernel
theorem dX8_tick_239 : decode cX8_tick 239 = .ok (.iadd, 1) := by decide +kernel
theorem dX8_tick_240 : decode cX8_tick 240 = .ok (.putfield 202, 3) := by decide +kernel
theorem dX8_tick_243 : decode cX8_tick 243 = .ok (.iinc 2 1, 3) := by decide +kernel
theorem dX8_tick_246 : decode cX8_tick 246 = .ok (.goto (-52), 3) := by decide +kernel
theorem dX8_tick_249 : decode cX8_tick 249 = .ok (.iconst 0, 1) := by decide +kernel
theorem dX8_tick_250 : decode cX8_tick 250 = .ok (.istore_n 2, 1) := by decide +kernel
theorem dX8_tick_251 : decode cX8_tick 251 = .ok (.iload_n 2, 1) := by decide +kernel
theorem dX8_tick_252 : decode cX8_tick 252 = .ok (.aload_n 0, 1) := by decide +kernel
theorem dX8_tick_253 : decode cX8_tick 253 = .ok (.getfield 22, 3) := by decide +kernel
theorem dX8_tick_256 : decode cX8_tick 256 = .ok (.invokevirtual 45, 3) := by decide +kernel
theorem dX8_tick_259 : decode cX8_tick 259 = .ok (.if_icmp .ge 40, 3) := by decide +kernel
theorem dX8_tick_262 : decode cX8_tick 262 = .ok (.aload_n 0, 1) := by decide +kernel
theorem dX8_tick_263 : decode cX8_tick 263 = .ok (.dup, 1) := by decide +kernel
theorem dX8_tick_264 : decode cX8_tick 264 = .ok (.getfield 202, 3) := by decide +kernel
theorem dX8_tick_267 : decode cX8_tick 267 = .ok (.aload_n 0, 1) := by decide +kernel
theorem dX8_tick_268 : decode cX8_tick 268 = .ok (.getfield 22, 3) := by decide +kernel
theorem dX8_tick_271 : decode cX8_tick 271 = .ok (.iload_n 2, 1) := by decide +kernel
theorem dX8_tick_272 : decode cX8_tick 272 = .ok (.invokevirtual 49, 3) := by decide +kernel
theorem dX8_tick_275 : decode cX8_tick 275 = .ok (.checkcast 63, 3) := by decide +kernel
theorem dX8_tick_278 : decode cX8_tick 278 = .ok (.getfield 121, 3) := by decide +kernel
theorem dX8_tick_281 : decode cX8_tick 281 = .ok (.ifCond .eq 7, 3) := by decide +kernel
theorem dX8_tick_284 : decode cX8_tick 284 = .ok (.iconst 1, 1) := by decide +kernel
theorem dX8_tick_285 : decode cX8_tick 285 = .ok (.goto 4, 3) := by decide +kernel
theorem dX8_tick_288 : decode cX8_tick 288 = .ok (.iconst 0, 1) := by decide +kernel
theorem dX8_tick_289 : decode cX8_tick 289 = .ok (.iadd, 1) := by decide +kernel
theorem dX8_tick_290 : decode cX8_tick 290 = .ok (.putfield 202, 3) := by decide +kernel
theorem dX8_tick_293 : decode cX8_tick 293 = .ok (.iinc 2 1, 3) := by decide +kernel
theorem dX8_tick_296 : decode cX8_tick 296 = .ok (.goto (-45), 3) := by decide +kernel
theorem dX8_tick_299 : decode cX8_tick 299 = .ok (.iconst 0, 1) := by decide +kernel
theorem dX8_tick_300 : decode cX8_tick 300 = .ok (.istore_n 2, 1) := by decide +kernel
theorem dX8_tick_301 : decode cX8_tick 301 = .ok (.iload_n 2, 1) := by decide +kernel
theorem dX8_tick_302 : decode cX8_tick 302 = .ok (.aload_n 0, 1) := by decide +kernel
theorem dX8_tick_303 : decode cX8_tick 303 = .ok (.getfield 18, 3) := by decide +kernel
theorem dX8_tick_306 : decode cX8_tick 306 = .ok (.invokevirtual 45, 3) := by decide +kernel
theorem dX8_tick_309 : decode cX8_tick 309 = .ok (.if_icmp .ge 33, 3) := by decide +kernel
theorem dX8_tick_312 : decode cX8_tick 312 = .ok (.aload_n 0, 1) := by decide +kernel
theorem dX8_tick_313 : decode cX8_tick 313 = .ok (.getfield 9, 3) := by decide +kernel
theorem dX8_tick_316 : decode cX8_tick 316 = .ok (.sipush 300, 3) := by decide +kernel
theorem dX8_tick_319 : decode cX8_tick 319 = .ok (.if_icmp .ge 23, 3) := by decide +kernel
theorem dX8_tick_322 : decode cX8_tick 322 = .ok (.aload_n 0, 1) := by decide +kernel
theorem dX8_tick_323 : decode cX8_tick 323 = .ok (.getfield 18, 3) := by decide +kernel
theorem dX8_tick_326 : decode cX8_tick 326 = .ok (.iload_n 2, 1) := by decide +kernel
theorem dX8_tick_327 : decode cX8_tick 327 = .ok (.invokevirtual 49, 3) := by decide +kernel
theorem dX8_tick_330 : decode cX8_tick 330 = .ok (.checkcast 53, 3) := by decide +kernel
theorem dX8_tick_333 : decode cX8_tick 333 = .ok (.invokestatic 205, 3) := by decide +kernel
theorem dX8_tick_336 : decode cX8_tick 336 = .ok (.iinc 2 1, 3) := by decide +kernel
theorem dX8_tick_339 : decode cX8_tick 339 = .ok (.goto (-38), 3) := by decide +kernel
theorem dX8_tick_342 : decode cX8_tick 342 = .ok (.aload_n 0, 1) := by decide +kernel
theorem dX8_tick_343 : decode cX8_tick 343 = .ok (.invokevirtual 209, 3) := by decide +kernel
theorem dX8_tick_346 : decode cX8_tick 346 = .ok (.iload_n 1, 1) := by decide +kernel
theorem dX8_tick_347 : decode cX8_tick 347 = .ok (.ireturn, 1) := by decide +kernel
theorem dX11_init_0 : decode cX11_init 0 = .ok (.aload_n 0, 1) := by decide +kernel
theorem dX11_init_1 : decode cX11_init 1 = .ok (.invokespecial 1, 3) := by decide +kernel
theorem dX11_init_4 : decode cX11_init 4 = .ok (.aload_n 0, 1) := by decide +kernel
theorem dX11_init_5 : decode cX11_init 5 = .ok (.iload_n 1, 1) := by decide +kernel
theorem dX11_init_6 : decode cX11_init 6 = .ok (.putfield 7, 3) := by decide +kernel
theorem dX11_init_9 : decode cX11_init 9 = .ok (.return_, 1) := by decide +kernel
theorem dX12_isIn_0 : decode cX12_isIn 0 = .ok (.iload_n 0, 1) := by decide +kernel
theorem dX12_isIn_1 : decode cX12_isIn 1 = .ok (.iload_n 1, 1) := by decide +kernel
theorem dX12_isIn_2 : decode cX12_isIn 2 = .ok (.if_icmp .lt 12, 3) := by decide +kernel
theorem dX12_isIn_5 : decode cX12_isIn 5 = .ok (.iload_n 0, 1) := by decide +kernel
theorem dX12_isIn_6 : decode cX12_isIn 6 = .ok (.iload_n 2, 1) := by decide +kernel
theorem dX12_isIn_7 : decode cX12_isIn 7 = .ok (.if_icmp .gt 7, 3) := by decide +kernel
theorem dX12_isIn_10 : decode cX12_isIn 10 = .ok (.iconst 1, 1) := by decide +kernel
theorem dX12_isIn_11 : decode cX12_isIn 11 = .ok (.goto 4, 3) := by decide +kernel
theorem dX12_isIn_14 : decode cX12_isIn 14 = .ok (.iconst 0, 1) := by decide +kernel
theorem dX12_isIn_15 : decode cX12_isIn 15 = .ok (.ireturn, 1) := by decide +kernel
theorem dX12_init_0 : decode cX12_init 0 = .ok (.aload_n 0, 1) := by decide +kernel
theorem dX12_init_1 : decode cX12_init 1 = .ok (.invokespecial 1, 3) := by decide +kernel
theorem dX12_init_4 : decode cX12_init 4 = .ok (.aload_n 0, 1) := by decide +kernel
theorem dX12_init_5 : decode cX12_init 5 = .ok (.new 7, 3) := by decide +kernel
theorem dX12_init_8 : decode cX12_init 8 = .ok (.dup, 1) := by decide +kernel
theorem dX12_init_9 : decode cX12_init 9 = .ok (.invokespecial 9, 3) := by decide +kernel
theorem dX12_init_12 : decode cX12_init 12 = .ok (.putfield 10, 3) := by decide +kernel
theorem dX12_init_15 : decode cX12_init 15 = .ok (.aload_n 0, 1) := by decide +kernel
theorem dX12_init_16 : decode cX12_init 16 = .ok (.new 16, 3) := by decide +kernel
theorem dX12_init_19 : decode cX12_init 19 = .ok (.dup, 1) := by decide +kernel
theorem dX12_init_20 : decode cX12_init 20 = .ok (.invokespecial 18, 3) := by decide +kernel
theorem dX12_init_23 : decode cX12_init 23 = .ok (.putfield 19, 3) := by decide +kernel
theorem dX12_init_26 : decode cX12_init 26 = .ok (.return_, 1) := by decide +kernel
theorem dX12_thrown_0 : decode cX12_thrown 0 = .ok (.aload_n 0, 1) := by decide +kernel
theorem dX12_thrown_1 : decode cX12_thrown 1 = .ok (.getfield 23, 3) := by decide +kernel
theorem dX12_thrown_4 : decode cX12_thrown 4 = .ok (.ireturn, 1) := by decide +kernel
theorem dX12_refuse_0 : decode cX12_refuse 0 = .ok (.iload_n 1, 1) := by decide +kernel
theorem dX12_refuse_1 : decode cX12_refuse 1 = .ok (.ifCond .eq 15, 3) := by decide +kernel
theorem dX12_refuse_4 : decode cX12_refuse 4 = .ok (.aload_n 0, 1) := by decide +kernel
theorem dX12_refuse_5 : decode cX12_refuse 5 = .ok (.getfield 23, 3) := by decide +kernel
theorem dX12_refuse_8 : decode cX12_refuse 8 = .ok (.ifCond .ne 8, 3) := by decide +kernel
theorem dX12_refuse_11 : decode cX12_refuse 11 = .ok (.aload_n 0, 1) := by decide +kernel
theorem dX12_refuse_12 : decode cX12_refuse 12 = .ok (.iload_n 2, 1) := by decide +kernel
theorem dX12_refuse_13 : decode cX12_refuse 13 = .ok (.putfield 23, 3) := by decide +kernel
theorem dX12_refuse_16 : decode cX12_refuse 16 = .ok (.aload_n 0, 1) := by decide +kernel
theorem dX12_refuse_17 : decode cX12_refuse 17 = .ok (.getfield 23, 3) := by decide +kernel
theorem dX12_refuse_20 : decode cX12_refuse 20 = .ok (.ifCond .le 7, 3) := by decide +kernel
theorem dX12_refuse_23 : decode cX12_refuse 23 = .ok (.iconst 1, 1) := by decide +kernel
theorem dX12_refuse_24 : decode cX12_refuse 24 = .ok (.goto 4, 3) := by decide +kernel
theorem dX12_refuse_27 : decode cX12_refuse 27 = .ok (.iconst 0, 1) := by decide +kernel
theorem dX12_refuse_28 : decode cX12_refuse 28 = .ok (.ireturn, 1) := by decide +kernel
theorem dX12_start_0 : decode cX12_start 0 = .ok (.aload_n 0, 1) := by decide +kernel
theorem dX12_start_1 : decode cX12_start 1 = .ok (.iconst 0, 1) := by decide +kernel
theorem dX12_start_2 : decode cX12_start 2 = .ok (.putfield 23, 3) := by decide +kernel
theorem dX12_start_5 : decode cX12_start 5 = .ok (.aload_n 0, 1) := by decide +kernel
theorem dX12_start_6 : decode cX12_start 6 = .ok (.iload_n 1, 1) := by decide +kernel
theorem dX12_start_7 : decode cX12_start 7 = .ok (.iload_n 2, 1) := by decide +kernel
theorem dX12_start_8 : decode cX12_start 8 = .ok (.invokevirtual 27, 3) := by decide +kernel
theorem dX12_start_11 : decode cX12_start 11 = .ok (.ireturn, 1) := by decide +kernel
theorem dX12_isNoPump_0 : decode cX12_isNoPump 0 = .ok (.iload_n 1, 1) := by decide +kernel
theorem dX12_isNoPump_1 : decode cX12_isNoPump 1 = .ok (.iconst 0, 1) := by decide +kernel
theorem dX12_isNoPump_2 : decode cX12_isNoPump 2 = .ok (.aload_n 0, 1) := by decide +kernel
theorem dX12_isNoPump_3 : decode cX12_isNoPump 3 = .ok (.getfield 10, 3) := by decide +kernel
theorem dX12_isNoPump_6 : decode cX12_isNoPump 6 = .ok (.getfield 31, 3) := by decide +kernel
theorem dX12_isNoPump_9 : decode cX12_isNoPump 9 = .ok (.invokevirtual 34, 3) := by decide +kernel
theorem dX12_isNoPump_12 : decode cX12_isNoPump 12 = .ok (.iconst 1, 1) := by decide +kernel
theorem dX12_isNoPump_13 : decode cX12_isNoPump 13 = .ok (.isub, 1) := by decide +kernel
theorem dX12_isNoPump_14 : decode cX12_isNoPump 14 = .ok (.invokestatic 38, 3) := by decide +kernel
theorem dX12_isNoPump_17 : decode cX12_isNoPump 17 = .ok (.ifCond .ne 7, 3) := by decide +kernel
theorem dX12_isNoPump_20 : decode cX12_isNoPump 20 = .ok (.iconst 1, 1) := by decide +kernel
theorem dX12_isNoPump_21 : decode cX12_isNoPump 21 = .ok (.goto 4, 3) := by decide +kernel
theorem dX12_isNoPump_24 : decode cX12_isNoPump 24 = .ok (.iconst 0, 1) := by decide +kernel
theorem dX12_isNoPump_25 : decode cX12_isNoPump 25 = .ok (.ireturn, 1) := by decide +kernel
theorem dX12_isNoJet_0 : decode cX12_isNoJet 0 = .ok (.iload_n 1, 1) := by decide +kernel
theorem dX12_isNoJet_1 : decode cX12_isNoJet 1 = .ok (.iconst 0, 1) := by decide +kernel
theorem dX12_isNoJet_2 : decode cX12_isNoJet 2 = .ok (.aload_n 0, 1) := by decide +kernel
theorem dX12_isNoJet_3 : decode cX12_isNoJet 3 = .ok (.getfield 10, 3) := by decide +kernel
theorem dX12_isNoJet_6 : decode cX12_isNoJet 6 = .ok (.getfield 42, 3) := by decide +kernel
theorem dX12_isNoJet_9 : decode cX12_isNoJet 9 = .ok (.invokevirtual 34, 3) := by decide +kernel
theorem dX12_isNoJet_12 : decode cX12_isNoJet 12 = .ok (.iconst 1, 1) := by decide +kernel
theorem dX12_isNoJet_13 : decode cX12_isNoJet 13 = .ok (.isub, 1) := by decide +kernel
theorem dX12_isNoJet_14 : decode cX12_isNoJet 14 = .ok (.invokestatic 38, 3) := by decide +kernel
theorem dX12_isNoJet_17 : decode cX12_isNoJet 17 = .ok (.ifCond .ne 7, 3) := by decide +kernel
theorem dX12_isNoJet_20 : decode cX12_isNoJet 20 = .ok (.iconst 1, 1) := by decide +kernel
theorem dX12_isNoJet_21 : decode cX12_isNoJet 21 = .ok (.goto 4, 3) := by decide +kernel
theorem dX12_isNoJet_24 : decode cX12_isNoJet 24 = .ok (.iconst 0, 1) := by decide +kernel
theorem dX12_isNoJet_25 : decode cX12_isNoJet 25 = .ok (.ireturn, 1) := by decide +kernel
theorem dX12_isNoFigure_0 : decode cX12_isNoFigure 0 = .ok (.iload_n 1, 1) := by decide +kernel
theorem dX12_isNoFigure_1 : decode cX12_isNoFigure 1 = .ok (.iconst 0, 1) := by decide +kernel
theorem dX12_isNoFigure_2 : decode cX12_isNoFigure 2 = .ok (.aload_n 0, 1) := by decide +kernel
theorem dX12_isNoFigure_3 : decode cX12_isNoFigure 3 = .ok (.getfield 19, 3) := by decide +kernel
theorem dX12_isNoFigure_6 : decode cX12_isNoFigure 6 = .ok (.invokevirtual 34, 3) := by decide +kernel
theorem dX12_isNoFigure_9 : decode cX12_isNoFigure 9 = .ok (.iconst 1, 1) := by decide +kernel
theorem dX12_isNoFigure_10 : decode cX12_isNoFigure 10 = .ok (.isub, 1) := by decide +kernel
theorem dX12_isNoFigure_11 : decode cX12_isNoFigure 11 = .ok (.invokestatic 38, 3) := by decide +kernel
theorem dX12_isNoFigure_14 : decode cX12_isNoFigure 14 = .ok (.ifCond .ne 7, 3) := by decide +kernel
theorem dX12_isNoFigure_17 : decode cX12_isNoFigure 17 = .ok (.iconst 1, 1) := by decide +kernel
theorem dX12_isNoFigure_18 : decode cX12_isNoFigure 18 = .ok (.goto 4, 3) := by decide +kernel
theorem dX12_isNoFigure_21 : decode cX12_isNoFigure 21 = .ok (.iconst 0, 1) := by decide +kernel
theorem dX12_isNoFigure_22 : decode cX12_isNoFigure 22 = .ok (.ireturn, 1) := by decide +kernel
theorem dX12_pump_0 : decode cX12_pump 0 = .ok (.aload_n 0, 1) := by decide +kernel
theorem dX12_pump_1 : decode cX12_pump 1 = .ok (.iload_n 1, 1) := by decide +kernel
theorem dX12_pump_2 : decode cX12_pump 2 = .ok (.bipush 10, 2) := by decide +kernel
theorem dX12_pump_4 : decode cX12_pump 4 = .ok (.bipush 60, 2) := by decide +kernel
theorem dX12_pump_6 : decode cX12_pump 6 = .ok (.invokestatic 38, 3) := by decide +kernel
theorem dX12_pump_9 : decode cX12_pump 9 = .ok (.ifCond .ne 7, 3) := by decide +kernel
theorem dX12_pump_12 : decode cX12_pump 12 = .ok (.iconst 1, 1) := by decide +kernel
theorem dX12_pump_13 : decode cX12_pump 13 = .ok (.goto 4, 3) := by decide +kernel
theorem dX12_pump_16 : decode cX12_pump 16 = .ok (.iconst 0, 1) := by decide +kernel
theorem dX12_pump_17 : decode cX12_pump 17 = .ok (.iconst 1, 1) := by decide +kernel
theorem dX12_pump_18 : decode cX12_pump 18 = .ok (.invokevirtual 45, 3) := by decide +kernel
theorem dX12_pump_21 : decode cX12_pump 21 = .ok (.ifCond .ne 30, 3) := by decide +kernel
theorem dX12_pump_24 : decode cX12_pump 24 = .ok (.aload_n 0, 1) := by decide +kernel
theorem dX12_pump_25 : decode cX12_pump 25 = .ok (.aload_n 0, 1) := by decide +kernel
theorem dX12_pump_26 : decode cX12_pump 26 = .ok (.getfield 10, 3) := by decide +kernel
theorem dX12_pump_29 : decode cX12_pump 29 = .ok (.getfield 31, 3) := by decide +kernel
theorem dX12_pump_32 : decode cX12_pump 32 = .ok (.invokevirtual 34, 3) := by decide +kernel
theorem dX12_pump_35 : decode cX12_pump 35 = .ok (.iconst 3, 1) := by decide +kernel
theorem dX12_pump_36 : decode cX12_pump 36 = .ok (.if_icmp .ne 7, 3) := by decide +kernel
theorem dX12_pump_39 : decode cX12_pump 39 = .ok (.iconst 1, 1) := by decide +kernel
theorem dX12_pump_40 : decode cX12_pump 40 = .ok (.goto 4, 3) := by decide +kernel
theorem dX12_pump_43 : decode cX12_pump 43 = .ok (.iconst 0, 1) := by decide +kernel
theorem dX12_pump_44 : decode cX12_pump 44 = .ok (.iconst 2, 1) := by decide +kernel
theorem dX12_pump_45 : decode cX12_pump 45 = .ok (.invokevirtual 27, 3) := by decide +kernel
theorem dX12_pump_48 : decode cX12_pump 48 = .ok (.ifCond .eq 5, 3) := by decide +kernel
theorem dX12_pump_51 : decode cX12_pump 51 = .ok (.iconst 0, 1) := by decide +kernel
theorem dX12_pump_52 : decode cX12_pump 52 = .ok (.ireturn, 1) := by decide +kernel
theorem dX12_pump_53 : decode cX12_pump 53 = .ok (.aload_n 0, 1) := by decide +kernel
theorem dX12_pump_54 : decode cX12_pump 54 = .ok (.getfield 10, 3) := by decide +kernel
theorem dX12_pump_57 : decode cX12_pump 57 = .ok (.getfield 31, 3) := by decide +kernel
theorem dX12_pump_60 : decode cX12_pump 60 = .ok (.new 48, 3) := by decide +kernel
theorem dX12_pump_63 : decode cX12_pump 63 = .ok (.dup, 1) := by decide +kernel
theorem dX12_pump_64 : decode cX12_pump 64 = .ok (.iload_n 1, 1) := by decide +kernel
theorem dX12_pump_65 : decode cX12_pump 65 = .ok (.invokespecial 50, 3) := by decide +kernel
theorem dX12_pump_68 : decode cX12_pump 68 = .ok (.invokevirtual 53, 3) := by decide +kernel
theorem dX12_pump_71 : decode cX12_pump 71 = .ok (.pop, 1) := by decide +kernel
theorem dX12_pump_72 : decode cX12_pump 72 = .ok (.aload_n 0, 1) := by decide +kernel
theorem dX12_pump_73 : decode cX12_pump 73 = .ok (.getfield 10, 3) := by decide +kernel
theorem dX12_pump_76 : decode cX12_pump 76 = .ok (.getfield 31, 3) := by decide +kernel
theorem dX12_pump_79 : decode cX12_pump 79 = .ok (.invokevirtual 34, 3) := by decide +kernel
theorem dX12_pump_82 : decode cX12_pump 82 = .ok (.iconst 1, 1) := by decide +kernel
theorem dX12_pump_83 : decode cX12_pump 83 = .ok (.isub, 1) := by decide +kernel
theorem dX12_pump_84 : decode cX12_pump 84 = .ok (.ireturn, 1) := by decide +kernel
theorem dX12_jet_0 : decode cX12_jet 0 = .ok (.aload_n 0, 1) := by decide +kernel
theorem dX12_jet_1 : decode cX12_jet 1 = .ok (.aload_n 0, 1) := by decide +kernel
theorem dX12_jet_2 : decode cX12_jet 2 = .ok (.iload_n 1, 1) := by decide +kernel
theorem dX12_jet_3 : decode cX12_jet 3 = .ok (.invokevirtual 57, 3) := by decide +kernel
theorem dX12_jet_6 : decode cX12_jet 6 = .ok (.iconst 1, 1) := by decide +kernel
theorem dX12_jet_7 : decode cX12_jet 7 = .ok (.invokevirtual 45, 3) := by decide +kernel
theorem dX12_jet_10 : decode cX12_jet 10 = .ok (.ifCond .ne 74, 3) := by decide +kernel
theorem dX12_jet_13 : decode cX12_jet 13 = .ok (.aload_n 0, 1) := by decide +kernel
theorem dX12_jet_14 : decode cX12_jet 14 = .ok (.iload_n 2, 1) := by decide +kernel
theorem dX12_jet_15 : decode cX12_jet 15 = .ok (.iconst 0, 1) := by decide +kernel
theorem dX12_jet_16 : decode cX12_jet 16 = .ok (.bipush 19, 2) := by decide +kernel
theorem dX12_jet_18 : decode cX12_jet 18 = .ok (.invokestatic 38, 3) := by decide +kernel
theorem dX12_jet_21 : decode cX12_jet 21 = .ok (.ifCond .eq 23, 3) := by decide +kernel
theorem dX12_jet_24 : decode cX12_jet 24 = .ok (.iload_n 3, 1) := by decide +kernel
theorem dX12_jet_25 : decode cX12_jet 25 = .ok (.iconst 1, 1) := by decide +kernel
theorem dX12_jet_26 : decode cX12_jet 26 = .ok (.iconst 5, 1) := by decide +kernel
theorem dX12_jet_27 : decode cX12_jet 27 = .ok (.invokestatic 38, 3) := by decide +kernel
theorem dX12_jet_30 : decode cX12_jet 30 = .ok (.ifCond .eq 14, 3) := by decide +kernel
theorem dX12_jet_33 : decode cX12_jet 33 = .ok (.iload 4, 2) := by decide +kernel
theorem dX12_jet_35 : decode cX12_jet 35 = .ok (.bipush (-3), 2) := by decide +kernel
theorem dX12_jet_37 : decode cX12_jet 37 = .ok (.iconst 3, 1) := by decide +kernel
theorem dX12_jet_38 : decode cX12_jet 38 = .ok (.invokestatic 38, 3) := by decide +kernel
theorem dX12_jet_41 : decode cX12_jet 41 = .ok (.ifCond .ne 7, 3) := by decide +kernel
theorem dX12_jet_44 : decode cX12_jet 44 = .ok (.iconst 1, 1) := by decide +kernel
theorem dX12_jet_45 : decode cX12_jet 45 = .ok (.goto 4, 3) := by decide +kernel
theorem dX12_jet_48 : decode cX12_jet 48 = .ok (.iconst 0, 1) := by decide +kernel
theorem dX12_jet_49 : decode cX12_jet 49 = .ok (.iconst 2, 1) := by decide +kernel
theorem dX12_jet_50 : decode cX12_jet 50 = .ok (.invokevirtual 27, 3) := by decide +kernel
theorem dX12_jet_53 : decode cX12_jet 53 = .ok (.ifCond .ne 31, 3) := by decide +kernel
theorem dX12_jet_56 : decode cX12_jet 56 = .ok (.aload_n 0, 1) := by decide +kernel
theorem dX12_jet_57 : decode cX12_jet 57 = .ok (.aload_n 0, 1) := by decide +kernel
theorem dX12_jet_58 : decode cX12_jet 58 = .ok (.getfield 10, 3) := by decide +kernel
theorem dX12_jet_61 : decode cX12_jet 61 = .ok (.getfield 42, 3) := by decide +kernel
theorem dX12_jet_64 : decode cX12_jet 64 = .ok (.invokevirtual 34, 3) := by decide +kernel
theorem dX12_jet_67 : decode cX12_jet 67 = .ok (.bipush 10, 2) := by decide +kernel
theorem dX12_jet_69 : decode cX12_jet 69 = .ok (.if_icmp .ne 7, 3) := by decide +kernel
theorem dX12_jet_72 : decode cX12_jet 72 = .ok (.iconst 1, 1) := by decide +kernel
theorem dX12_jet_73 : decode cX12_jet 73 = .ok (.goto 4, 3) := by decide +kernel
theorem dX12_jet_76 : decode cX12_jet 76 = .ok (.iconst 0, 1) := by decide +kernel
theorem dX12_jet_77 : decode cX12_jet 77 = .ok (.iconst 3, 1) := by decide +kernel
theorem dX12_jet_78 : decode cX12_jet 78 = .ok (.invokevirtual 27, 3) := by decide +kernel
theorem dX12_jet_81 : decode cX12_jet 81 = .ok (.ifCond .eq 5, 3) := by decide +kernel
theorem dX12_jet_84 : decode cX12_jet 84 = .ok (.iconst 0, 1) := by decide +kernel
theorem dX12_jet_85 : decode cX12_jet 85 = .ok (.ireturn, 1) := by decide +kernel
theorem dX12_jet_86 : decode cX12_jet 86 = .ok (.aload_n 0, 1) := by decide +kernel
theorem dX12_jet_87 : decode cX12_jet 87 = .ok (.getfield 10, 3) := by decide +kernel
theorem dX12_jet_90 : decode cX12_jet 90 = .ok (.getfield 42, 3) := by decide +kernel
theorem dX12_jet_93 : decode cX12_jet 93 = .ok (.new 61, 3) := by decide +kernel
theorem dX12_jet_96 : decode cX12_jet 96 = .ok (.dup, 1) := by decide +kernel
theorem dX12_jet_97 : decode cX12_jet 97 = .ok (.iload_n 1, 1) := by decide +kernel
theorem dX12_jet_98 : decode cX12_jet 98 = .ok (.iload_n 2, 1) := by decide +kernel
theorem dX12_jet_99 : decode cX12_jet 99 = .ok (.iload_n 3, 1) := by decide +kernel
theorem dX12_jet_100 : decode cX12_jet 100 = .ok (.iload 4, 2) := by decide +kernel
theorem dX12_jet_102 : decode cX12_jet 102 = .ok (.invokespecial 63, 3) := by decide +kernel
theorem dX12_jet_105 : decode cX12_jet 105 = .ok (.invokevirtual 53, 3) := by decide +kernel
theorem dX12_jet_108 : decode cX12_jet 108 = .ok (.pop, 1) := by decide +kernel
theorem dX12_jet_109 : decode cX12_jet 109 = .ok (.aload_n 0, 1) := by decide +kernel
theorem dX12_jet_110 : decode cX12_jet 110 = .ok (.getfield 10, 3) := by decide +kernel
theorem dX12_jet_113 : decode cX12_jet 113 = .ok (.getfield 42, 3) := by decide +kernel
theorem dX12_jet_116 : decode cX12_jet 116 = .ok (.invokevirtual 34, 3) := by decide +kernel
theorem dX12_jet_119 : decode cX12_jet 119 = .ok (.iconst 1, 1) := by decide +kernel
theorem dX12_jet_120 : decode cX12_jet 120 = .ok (.isub, 1) := by decide +kernel
theorem dX12_jet_121 : decode cX12_jet 121 = .ok (.ireturn, 1) := by decide +kernel
theorem dX12_figure_0 : decode cX12_figure 0 = .ok (.aload_n 0, 1) := by decide +kernel
theorem dX12_figure_1 : decode cX12_figure 1 = .ok (.aload_n 0, 1) := by decide +kernel
theorem dX12_figure_2 : decode cX12_figure 2 = .ok (.getfield 19, 3) := by decide +kernel
theorem dX12_figure_5 : decode cX12_figure 5 = .ok (.invokevirtual 34, 3) := by decide +kernel
theorem dX12_figure_8 : decode cX12_figure 8 = .ok (.iconst 5, 1) := by decide +kernel
theorem dX12_figure_9 : decode cX12_figure 9 = .ok (.if_icmp .ne 7, 3) := by decide +kernel
theorem dX12_figure_12 : decode cX12_figure 12 = .ok (.iconst 1, 1) := by decide +kernel
theorem dX12_figure_13 : decode cX12_figure 13 = .ok (.goto 4, 3) := by decide +kernel
theorem dX12_figure_16 : decode cX12_figure 16 = .ok (.iconst 0, 1) := by decide +kernel
theorem dX12_figure_17 : decode cX12_figure 17 = .ok (.iconst 1, 1) := by decide +kernel
theorem dX12_figure_18 : decode cX12_figure 18 = .ok (.invokevirtual 45, 3) := by decide +kernel
theorem dX12_figure_21 : decode cX12_figure 21 = .ok (.ifCond .eq 5, 3) := by decide +kernel
theorem dX12_figure_24 : decode cX12_figure 24 = .ok (.iconst 0, 1) := by decide +kernel
theorem dX12_figure_25 : decode cX12_figure 25 = .ok (.ireturn, 1) := by decide +kernel
theorem dX12_figure_26 : decode cX12_figure 26 = .ok (.aload_n 0, 1) := by decide +kernel
theorem dX12_figure_27 : decode cX12_figure 27 = .ok (.getfield 19, 3) := by decide +kernel
theorem dX12_figure_30 : decode cX12_figure 30 = .ok (.new 16, 3) := by decide +kernel
theorem dX12_figure_33 : decode cX12_figure 33 = .ok (.dup, 1) := by decide +kernel
theorem dX12_figure_34 : decode cX12_figure 34 = .ok (.invokespecial 18, 3) := by decide +kernel
theorem dX12_figure_37 : decode cX12_figure 37 = .ok (.invokevirtual 53, 3) := by decide +kernel
theorem dX12_figure_40 : decode cX12_figure 40 = .ok (.pop, 1) := by decide +kernel
theorem dX12_figure_41 : decode cX12_figure 41 = .ok (.aload_n 0, 1) := by decide +kernel
theorem dX12_figure_42 : decode cX12_figure 42 = .ok (.getfield 19, 3) := by decide +kernel
theorem dX12_figure_45 : decode cX12_figure 45 = .ok (.invokevirtual 34, 3) := by decide +kernel
theorem dX12_figure_48 : decode cX12_figure 48 = .ok (.iconst 1, 1) := by decide +kernel
theorem dX12_figure_49 : decode cX12_figure 49 = .ok (.isub, 1) := by decide +kernel
theorem dX12_figure_50 : decode cX12_figure 50 = .ok (.ireturn, 1) := by decide +kernel
theorem dX12_step_0 : decode cX12_step 0 = .ok (.aload_n 0, 1) := by decide +kernel
theorem dX12_step_1 : decode cX12_step 1 = .ok (.aload_n 0, 1) := by decide +kernel
theorem dX12_step_2 : decode cX12_step 2 = .ok (.iload_n 1, 1) := by decide +kernel
theorem dX12_step_3 : decode cX12_step 3 = .ok (.invokevirtual 66, 3) := by decide +kernel
theorem dX12_step_6 : decode cX12_step 6 = .ok (.iconst 1, 1) := by decide +kernel
theorem dX12_step_7 : decode cX12_step 7 = .ok (.invokevirtual 45, 3) := by decide +kernel
theorem dX12_step_10 : decode cX12_step 10 = .ok (.ifCond .ne 92, 3) := by decide +kernel
theorem dX12_step_13 : decode cX12_step 13 = .ok (.aload_n 0, 1) := by decide +kernel
theorem dX12_step_14 : decode cX12_step 14 = .ok (.iload_n 2, 1) := by decide +kernel
theorem dX12_step_15 : decode cX12_step 15 = .ok (.iconst 0, 1) := by decide +kernel
theorem dX12_step_16 : decode cX12_step 16 = .ok (.bipush 99, 2) := by decide +kernel
theorem dX12_step_18 : decode cX12_step 18 = .ok (.invokestatic 38, 3) := by decide +kernel
theorem dX12_step_21 : decode cX12_step 21 = .ok (.ifCond .eq 37, 3) := by decide +kernel
theorem dX12_step_24 : decode cX12_step 24 = .ok (.iload_n 3, 1) := by decide +kernel
theorem dX12_step_25 : decode cX12_step 25 = .ok (.iconst 1, 1) := by decide +kernel
theorem dX12_step_26 : decode cX12_step 26 = .ok (.sipush 1023, 3) := by decide +kernel
theorem dX12_step_29 : decode cX12_step 29 = .ok (.invokestatic 38, 3) := by decide +kernel
theorem dX12_step_32 : decode cX12_step 32 = .ok (.ifCond .eq 26, 3) := by decide +kernel
theorem dX12_step_35 : decode cX12_step 35 = .ok (.iload 4, 2) := by decide +kernel
theorem dX12_step_37 : decode cX12_step 37 = .ok (.iconst 0, 1) := by decide +kernel
theorem dX12_step_38 : decode cX12_step 38 = .ok (.bipush 6, 2) := by decide +kernel
theorem dX12_step_40 : decode cX12_step 40 = .ok (.invokestatic 38, 3) := by decide +kernel
theorem dX12_step_43 : decode cX12_step 43 = .ok (.ifCond .ne 19, 3) := by decide +kernel
theorem dX12_step_46 : decode cX12_step 46 = .ok (.iload 4, 2) := by decide +kernel
theorem dX12_step_48 : decode cX12_step 48 = .ok (.bipush 10, 2) := by decide +kernel
theorem dX12_step_50 : decode cX12_step 50 = .ok (.bipush 20, 2) := by decide +kernel
theorem dX12_step_52 : decode cX12_step 52 = .ok (.invokestatic 38, 3) := by decide +kernel
theorem dX12_step_55 : decode cX12_step 55 = .ok (.ifCond .ne 7, 3) := by decide +kernel
theorem dX12_step_58 : decode cX12_step 58 = .ok (.iconst 1, 1) := by decide +kernel
theorem dX12_step_59 : decode cX12_step 59 = .ok (.goto 4, 3) := by decide +kernel
theorem dX12_step_62 : decode cX12_step 62 = .ok (.iconst 0, 1) := by decide +kernel
theorem dX12_step_63 : decode cX12_step 63 = .ok (.iconst 2, 1) := by decide +kernel
theorem dX12_step_64 : decode cX12_step 64 = .ok (.invokevirtual 27, 3) := by decide +kernel
theorem dX12_step_67 : decode cX12_step 67 = .ok (.ifCond .ne 35, 3) := by decide +kernel
theorem dX12_step_70 : decode cX12_step 70 = .ok (.aload_n 0, 1) := by decide +kernel
theorem dX12_step_71 : decode cX12_step 71 = .ok (.aload_n 0, 1) := by decide +kernel
theorem dX12_step_72 : decode cX12_step 72 = .ok (.getfield 19, 3) := by decide +kernel
theorem dX12_step_75 : decode cX12_step 75 = .ok (.iload_n 1, 1) := by decide +kernel
theorem dX12_step_76 : decode cX12_step 76 = .ok (.invokevirtual 69, 3) := by decide +kernel
theorem dX12_step_79 : decode cX12_step 79 = .ok (.checkcast 16, 3) := by decide +kernel
theorem dX12_step_82 : decode cX12_step 82 = .ok (.invokevirtual 34, 3) := by decide +kernel
theorem dX12_step_85 : decode cX12_step 85 = .ok (.bipush 8, 2) := by decide +kernel
theorem dX12_step_87 : decode cX12_step 87 = .ok (.if_icmp .ne 7, 3) := by decide +kernel
theorem dX12_step_90 : decode cX12_step 90 = .ok (.iconst 1, 1) := by decide +kernel
theorem dX12_step_91 : decode cX12_step 91 = .ok (.goto 4, 3) := by decide +kernel
theorem dX12_step_94 : decode cX12_step 94 = .ok (.iconst 0, 1) := by decide +kernel
theorem dX12_step_95 : decode cX12_step 95 = .ok (.iconst 3, 1) := by decide +kernel
theorem dX12_step_96 : decode cX12_step 96 = .ok (.invokevirtual 27, 3) := by decide +kernel
theorem dX12_step_99 : decode cX12_step 99 = .ok (.ifCond .eq 5, 3) := by decide +kernel
theorem dX12_step_102 : decode cX12_step 102 = .ok (.iconst 0, 1) := by decide +kernel
theorem dX12_step_103 : decode cX12_step 103 = .ok (.ireturn, 1) := by decide +kernel
theorem dX12_step_104 : decode cX12_step 104 = .ok (.aload_n 0, 1) := by decide +kernel
theorem dX12_step_105 : decode cX12_step 105 = .ok (.getfield 19, 3) := by decide +kernel
theorem dX12_step_108 : decode cX12_step 108 = .ok (.iload_n 1, 1) := by decide +kernel
theorem dX12_step_109 : decode cX12_step 109 = .ok (.invokevirtual 69, 3) := by decide +kernel
theorem dX12_step_112 : decode cX12_step 112 = .ok (.checkcast 16, 3) := by decide +kernel
theorem dX12_step_115 : decode cX12_step 115 = .ok (.iconst 3, 1) := by decide +kernel
theorem dX12_step_116 : decode cX12_step 116 = .ok (.newarray .int, 2) := by decide +kernel
theorem dX12_step_118 : decode cX12_step 118 = .ok (.dup, 1) := by decide +kernel
theorem dX12_step_119 : decode cX12_step 119 = .ok (.iconst 0, 1) := by decide +kernel
theorem dX12_step_120 : decode cX12_step 120 = .ok (.iload_n 2, 1) := by decide +kernel
theorem dX12_step_121 : decode cX12_step 121 = .ok (.iastore, 1) := by decide +kernel
theorem dX12_step_122 : decode cX12_step 122 = .ok (.dup, 1) := by decide +kernel
theorem dX12_step_123 : decode cX12_step 123 = .ok (.iconst 1, 1) := by decide +kernel
theorem dX12_step_124 : decode cX12_step 124 = .ok (.iload_n 3, 1) := by decide +kernel
theorem dX12_step_125 : decode cX12_step 125 = .ok (.iastore, 1) := by decide +kernel
theorem dX12_step_126 : decode cX12_step 126 = .ok (.dup, 1) := by decide +kernel
theorem dX12_step_127 : decode cX12_step 127 = .ok (.iconst 2, 1) := by decide +kernel
theorem dX12_step_128 : decode cX12_step 128 = .ok (.iload 4, 2) := by decide +kernel
theorem dX12_step_130 : decode cX12_step 130 = .ok (.iastore, 1) := by decide +kernel
theorem dX12_step_131 : decode cX12_step 131 = .ok (.invokevirtual 53, 3) := by decide +kernel
theorem dX12_step_134 : decode cX12_step 134 = .ok (.pop, 1) := by decide +kernel
theorem dX12_step_135 : decode cX12_step 135 = .ok (.aload_n 0, 1) := by decide +kernel
theorem dX12_step_136 : decode cX12_step 136 = .ok (.getfield 19, 3) := by decide +kernel
theorem dX12_step_139 : decode cX12_step 139 = .ok (.iload_n 1, 1) := by decide +kernel
theorem dX12_step_140 : decode cX12_step 140 = .ok (.invokevirtual 69, 3) := by decide +kernel
theorem dX12_step_143 : decode cX12_step 143 = .ok (.checkcast 16, 3) := by decide +kernel
theorem dX12_step_146 : decode cX12_step 146 = .ok (.invokevirtual 34, 3) := by decide +kernel
theorem dX12_step_149 : decode cX12_step 149 = .ok (.ireturn, 1) := by decide +kernel
theorem dX12_wind_0 : decode cX12_wind 0 = .ok (.aload_n 0, 1) := by decide +kernel
theorem dX12_wind_1 : decode cX12_wind 1 = .ok (.iload_n 1, 1) := by decide +kernel
theorem dX12_wind_2 : decode cX12_wind 2 = .ok (.bipush (-4), 2) := by decide +kernel
theorem dX12_wind_4 : decode cX12_wind 4 = .ok (.iconst 4, 1) := by decide +kernel
theorem dX12_wind_5 : decode cX12_wind 5 = .ok (.invokestatic 38, 3) := by decide +kernel
theorem dX12_wind_8 : decode cX12_wind 8 = .ok (.ifCond .eq 12, 3) := by decide +kernel
theorem dX12_wind_11 : decode cX12_wind 11 = .ok (.iload_n 2, 1) := by decide +kernel
theorem dX12_wind_12 : decode cX12_wind 12 = .ok (.iconst 0, 1) := by decide +kernel
theorem dX12_wind_13 : decode cX12_wind 13 = .ok (.iconst 2, 1) := by decide +kernel
theorem dX12_wind_14 : decode cX12_wind 14 = .ok (.invokestatic 38, 3) := by decide +kernel
theorem dX12_wind_17 : decode cX12_wind 17 = .ok (.ifCond .ne 7, 3) := by decide +kernel
theorem dX12_wind_20 : decode cX12_wind 20 = .ok (.iconst 1, 1) := by decide +kernel
theorem dX12_wind_21 : decode cX12_wind 21 = .ok (.goto 4, 3) := by decide +kernel
theorem dX12_wind_24 : decode cX12_wind 24 = .ok (.iconst 0, 1) := by decide +kernel
theorem dX12_wind_25 : decode cX12_wind 25 = .ok (.iconst 1, 1) := by decide +kernel
theorem dX12_wind_26 : decode cX12_wind 26 = .ok (.invokevirtual 45, 3) := by decide +kernel
theorem dX12_wind_29 : decode cX12_wind 29 = .ok (.ifCond .eq 5, 3) := by decide +kernel
theorem dX12_wind_32 : decode cX12_wind 32 = .ok (.iconst 0, 1) := by decide +kernel
theorem dX12_wind_33 : decode cX12_wind 33 = .ok (.ireturn, 1) := by decide +kernel
theorem dX12_wind_34 : decode cX12_wind 34 = .ok (.aload_n 0, 1) := by decide +kernel
theorem dX12_wind_35 : decode cX12_wind 35 = .ok (.getfield 10, 3) := by decide +kernel
theorem dX12_wind_38 : decode cX12_wind 38 = .ok (.getfield 73, 3) := by decide +kernel
theorem dX12_wind_41 : decode cX12_wind 41 = .ok (.istore_n 3, 1) := by decide +kernel
theorem dX12_wind_42 : decode cX12_wind 42 = .ok (.aload_n 0, 1) := by decide +kernel
theorem dX12_wind_43 : decode cX12_wind 43 = .ok (.getfield 10, 3) := by decide +kernel
theorem dX12_wind_46 : decode cX12_wind 46 = .ok (.iload_n 1, 1) := by decide +kernel
theorem dX12_wind_47 : decode cX12_wind 47 = .ok (.putfield 73, 3) := by decide +kernel
theorem dX12_wind_50 : decode cX12_wind 50 = .ok (.aload_n 0, 1) := by decide +kernel
theorem dX12_wind_51 : decode cX12_wind 51 = .ok (.getfield 10, 3) := by decide +kernel
theorem dX12_wind_54 : decode cX12_wind 54 = .ok (.iload_n 2, 1) := by decide +kernel
theorem dX12_wind_55 : decode cX12_wind 55 = .ok (.putfield 76, 3) := by decide +kernel
theorem dX12_wind_58 : decode cX12_wind 58 = .ok (.iload_n 3, 1) := by decide +kernel
theorem dX12_wind_59 : decode cX12_wind 59 = .ok (.ireturn, 1) := by decide +kernel
theorem dX12_valve_0 : decode cX12_valve 0 = .ok (.aload_n 0, 1) := by decide +kernel
theorem dX12_valve_1 : decode cX12_valve 1 = .ok (.aload_n 0, 1) := by decide +kernel
theorem dX12_valve_2 : decode cX12_valve 2 = .ok (.iload_n 1, 1) := by decide +kernel
theorem dX12_valve_3 : decode cX12_valve 3 = .ok (.invokevirtual 79, 3) := by decide +kernel
theorem dX12_valve_6 : decode cX12_valve 6 = .ok (.iconst 1, 1) := by decide +kernel
theorem dX12_valve_7 : decode cX12_valve 7 = .ok (.invokevirtual 45, 3) := by decide +kernel
theorem dX12_valve_10 : decode cX12_valve 10 = .ok (.ifCond .ne 40, 3) := by decide +kernel
theorem dX12_valve_13 : decode cX12_valve 13 = .ok (.aload_n 0, 1) := by decide +kernel
theorem dX12_valve_14 : decode cX12_valve 14 = .ok (.iload_n 2, 1) := by decide +kernel
theorem dX12_valve_15 : decode cX12_valve 15 = .ok (.iconst 0, 1) := by decide +kernel
theorem dX12_valve_16 : decode cX12_valve 16 = .ok (.iconst 4, 1) := by decide +kernel
theorem dX12_valve_17 : decode cX12_valve 17 = .ok (.invokestatic 38, 3) := by decide +kernel
theorem dX12_valve_20 : decode cX12_valve 20 = .ok (.ifCond .ne 7, 3) := by decide +kernel
theorem dX12_valve_23 : decode cX12_valve 23 = .ok (.iconst 1, 1) := by decide +kernel
theorem dX12_valve_24 : decode cX12_valve 24 = .ok (.goto 4, 3) := by decide +kernel
theorem dX12_valve_27 : decode cX12_valve 27 = .ok (.iconst 0, 1) := by decide +kernel
theorem dX12_valve_28 : decode cX12_valve 28 = .ok (.iconst 2, 1) := by decide +kernel
theorem dX12_valve_29 : decode cX12_valve 29 = .ok (.invokevirtual 27, 3) := by decide +kernel
theorem dX12_valve_32 : decode cX12_valve 32 = .ok (.ifCond .ne 18, 3) := by decide +kernel
theorem dX12_valve_35 : decode cX12_valve 35 = .ok (.aload_n 0, 1) := by decide +kernel
theorem dX12_valve_36 : decode cX12_valve 36 = .ok (.aload_n 0, 1) := by decide +kernel
theorem dX12_valve_37 : decode cX12_valve 37 = .ok (.getfield 10, 3) := by decide +kernel
theorem dX12_valve_40 : decode cX12_valve 40 = .ok (.getfield 82, 3) := by decide +kernel
theorem dX12_valve_43 : decode cX12_valve 43 = .ok (.iconst 3, 1) := by decide +kernel
theorem dX12_valve_44 : decode cX12_valve 44 = .ok (.invokevirtual 27, 3) := by decide +kernel
theorem dX12_valve_47 : decode cX12_valve 47 = .ok (.ifCond .eq 5, 3) := by decide +kernel
theorem dX12_valve_50 : decode cX12_valve 50 = .ok (.iconst 0, 1) := by decide +kernel
theorem dX12_valve_51 : decode cX12_valve 51 = .ok (.ireturn, 1) := by decide +kernel
theorem dX12_valve_52 : decode cX12_valve 52 = .ok (.aload_n 0, 1) := by decide +kernel
theorem dX12_valve_53 : decode cX12_valve 53 = .ok (.getfield 10, 3) := by decide +kernel
theorem dX12_valve_56 : decode cX12_valve 56 = .ok (.getfield 42, 3) := by decide +kernel
theorem dX12_valve_59 : decode cX12_valve 59 = .ok (.iload_n 1, 1) := by decide +kernel
theorem dX12_valve_60 : decode cX12_valve 60 = .ok (.invokevirtual 69, 3) := by decide +kernel
theorem dX12_valve_63 : decode cX12_valve 63 = .ok (.checkcast 61, 3) := by decide +kernel
theorem dX12_valve_66 : decode cX12_valve 66 = .ok (.getfield 86, 3) := by decide +kernel
theorem dX12_valve_69 : decode cX12_valve 69 = .ok (.istore_n 3, 1) := by decide +kernel
theorem dX12_valve_70 : decode cX12_valve 70 = .ok (.aload_n 0, 1) := by decide +kernel
theorem dX12_valve_71 : decode cX12_valve 71 = .ok (.getfield 10, 3) := by decide +kernel
theorem dX12_valve_74 : decode cX12_valve 74 = .ok (.getfield 42, 3) := by decide +kernel
theorem dX12_valve_77 : decode cX12_valve 77 = .ok (.iload_n 1, 1) := by decide +kernel
theorem dX12_valve_78 : decode cX12_valve 78 = .ok (.invokevirtual 69, 3) := by decide +kernel
theorem dX12_valve_81 : decode cX12_valve 81 = .ok (.checkcast 61, 3) := by decide +kernel
theorem dX12_valve_84 : decode cX12_valve 84 = .ok (.iload_n 2, 1) := by decide +kernel
theorem dX12_valve_85 : decode cX12_valve 85 = .ok (.putfield 86, 3) := by decide +kernel
theorem dX12_valve_88 : decode cX12_valve 88 = .ok (.iload_n 3, 1) := by decide +kernel
theorem dX12_valve_89 : decode cX12_valve 89 = .ok (.ireturn, 1) := by decide +kernel
theorem dX12_setting_0 : decode cX12_setting 0 = .ok (.aload_n 0, 1) := by decide +kernel
theorem dX12_setting_1 : decode cX12_setting 1 = .ok (.aload_n 0, 1) := by decide +kernel
theorem dX12_setting_2 : decode cX12_setting 2 = .ok (.iload_n 1, 1) := by decide +kernel
theorem dX12_setting_3 : decode cX12_setting 3 = .ok (.invokevirtual 57, 3) := by decide +kernel
theorem dX12_setting_6 : decode cX12_setting 6 = .ok (.iconst 1, 1) := by decide +kernel
theorem dX12_setting_7 : decode cX12_setting 7 = .ok (.invokevirtual 45, 3) := by decide +kernel
theorem dX12_setting_10 : decode cX12_setting 10 = .ok (.ifCond .ne 69, 3) := by decide +kernel
theorem dX12_setting_13 : decode cX12_setting 13 = .ok (.aload_n 0, 1) := by decide +kernel
theorem dX12_setting_14 : decode cX12_setting 14 = .ok (.iload_n 2, 1) := by decide +kernel
theorem dX12_setting_15 : decode cX12_setting 15 = .ok (.iconst 0, 1) := by decide +kernel
theorem dX12_setting_16 : decode cX12_setting 16 = .ok (.bipush 10, 2) := by decide +kernel
theorem dX12_setting_18 : decode cX12_setting 18 = .ok (.invokestatic 38, 3) := by decide +kernel
theorem dX12_setting_21 : decode cX12_setting 21 = .ok (.ifCond .ne 7, 3) := by decide +kernel
theorem dX12_setting_24 : decode cX12_setting 24 = .ok (.iconst 1, 1) := by decide +kernel
theorem dX12_setting_25 : decode cX12_setting 25 = .ok (.goto 4, 3) := by decide +kernel
theorem dX12_setting_28 : decode cX12_setting 28 = .ok (.iconst 0, 1) := by decide +kernel
theorem dX12_setting_29 : decode cX12_setting 29 = .ok (.iconst 2, 1) := by decide +kernel
theorem dX12_setting_30 : decode cX12_setting 30 = .ok (.invokevirtual 27, 3) := by decide +kernel
theorem dX12_setting_33 : decode cX12_setting 33 = .ok (.ifCond .ne 46, 3) := by decide +kernel
theorem dX12_setting_36 : decode cX12_setting 36 = .ok (.aload_n 0, 1) := by decide +kernel
theorem dX12_setting_37 : decode cX12_setting 37 = .ok (.aload_n 0, 1) := by decide +kernel
theorem dX12_setting_38 : decode cX12_setting 38 = .ok (.getfield 10, 3) := by decide +kernel
theorem dX12_setting_41 : decode cX12_setting 41 = .ok (.getfield 82, 3) := by decide +kernel
theorem dX12_setting_44 : decode cX12_setting 44 = .ok (.ifCond .ne 23, 3) := by decide +kernel
theorem dX12_setting_47 : decode cX12_setting 47 = .ok (.aload_n 0, 1) := by decide +kernel
theorem dX12_setting_48 : decode cX12_setting 48 = .ok (.getfield 10, 3) := by decide +kernel
theorem dX12_setting_51 : decode cX12_setting 51 = .ok (.getfield 31, 3) := by decide +kernel
theorem dX12_setting_54 : decode cX12_setting 54 = .ok (.iload_n 1, 1) := by decide +kernel
theorem dX12_setting_55 : decode cX12_setting 55 = .ok (.invokevirtual 69, 3) := by decide +kernel
theorem dX12_setting_58 : decode cX12_setting 58 = .ok (.checkcast 48, 3) := by decide +kernel
theorem dX12_setting_61 : decode cX12_setting 61 = .ok (.getfield 89, 3) := by decide +kernel
theorem dX12_setting_64 : decode cX12_setting 64 = .ok (.ifCond .eq 7, 3) := by decide +kernel
theorem dX12_setting_67 : decode cX12_setting 67 = .ok (.iconst 1, 1) := by decide +kernel
theorem dX12_setting_68 : decode cX12_setting 68 = .ok (.goto 4, 3) := by decide +kernel
theorem dX12_setting_71 : decode cX12_setting 71 = .ok (.iconst 0, 1) := by decide +kernel
theorem dX12_setting_72 : decode cX12_setting 72 = .ok (.iconst 3, 1) := by decide +kernel
theorem dX12_setting_73 : decode cX12_setting 73 = .ok (.invokevirtual 27, 3) := by decide +kernel
theorem dX12_setting_76 : decode cX12_setting 76 = .ok (.ifCond .eq 5, 3) := by decide +kernel
theorem dX12_setting_79 : decode cX12_setting 79 = .ok (.iconst 0, 1) := by decide +kernel
theorem dX12_setting_80 : decode cX12_setting 80 = .ok (.ireturn, 1) := by decide +kernel
theorem dX12_setting_81 : decode cX12_setting 81 = .ok (.aload_n 0, 1) := by decide +kernel
theorem dX12_setting_82 : decode cX12_setting 82 = .ok (.getfield 10, 3) := by decide +kernel
theorem dX12_setting_85 : decode cX12_setting 85 = .ok (.getfield 31, 3) := by decide +kernel
theorem dX12_setting_88 : decode cX12_setting 88 = .ok (.iload_n 1, 1) := by decide +kernel
theorem dX12_setting_89 : decode cX12_setting 89 = .ok (.invokevirtual 69, 3) := by decide +kernel
theorem dX12_setting_92 : decode cX12_setting 92 = .ok (.checkcast 48, 3) := by decide +kernel
theorem dX12_setting_95 : decode cX12_setting 95 = .ok (.getfield 92, 3) := by decide +kernel
theorem dX12_setting_98 : decode cX12_setting 98 = .ok (.istore_n 3, 1) := by decide +kernel
theorem dX12_setting_99 : decode cX12_setting 99 = .ok (.aload_n 0, 1) := by decide +kernel
theorem dX12_setting_100 : decode cX12_setting 100 = .ok (.getfield 10, 3) := by decide +kernel
theorem dX12_setting_103 : decode cX12_setting 103 = .ok (.getfield 31, 3) := by decide +kernel
theorem dX12_setting_106 : decode cX12_setting 106 = .ok (.iload_n 1, 1) := by decide +kernel
theorem dX12_setting_107 : decode cX12_setting 107 = .ok (.invokevirtual 69, 3) := by decide +kernel
theorem dX12_setting_110 : decode cX12_setting 110 = .ok (.checkcast 48, 3) := by decide +kernel
theorem dX12_setting_113 : decode cX12_setting 113 = .ok (.iload_n 2, 1) := by decide +kernel
theorem dX12_setting_114 : decode cX12_setting 114 = .ok (.putfield 92, 3) := by decide +kernel
theorem dX12_setting_117 : decode cX12_setting 117 = .ok (.iload_n 3, 1) := by decide +kernel
theorem dX12_setting_118 : decode cX12_setting 118 = .ok (.ireturn, 1) := by decide +kernel
theorem dX12_reset_0 : decode cX12_reset 0 = .ok (.aload_n 0, 1) := by decide +kernel
theorem dX12_reset_1 : decode cX12_reset 1 = .ok (.aload_n 0, 1) := by decide +kernel
theorem dX12_reset_2 : decode cX12_reset 2 = .ok (.iload_n 1, 1) := by decide +kernel
theorem dX12_reset_3 : decode cX12_reset 3 = .ok (.invokevirtual 57, 3) := by decide +kernel
theorem dX12_reset_6 : decode cX12_reset 6 = .ok (.iconst 1, 1) := by decide +kernel
theorem dX12_reset_7 : decode cX12_reset 7 = .ok (.invokevirtual 45, 3) := by decide +kernel
theorem dX12_reset_10 : decode cX12_reset 10 = .ok (.ifCond .ne 49, 3) := by decide +kernel
theorem dX12_reset_13 : decode cX12_reset 13 = .ok (.aload_n 0, 1) := by decide +kernel
theorem dX12_reset_14 : decode cX12_reset 14 = .ok (.aload_n 0, 1) := by decide +kernel
theorem dX12_reset_15 : decode cX12_reset 15 = .ok (.getfield 10, 3) := by decide +kernel
theorem dX12_reset_18 : decode cX12_reset 18 = .ok (.getfield 31, 3) := by decide +kernel
theorem dX12_reset_21 : decode cX12_reset 21 = .ok (.iload_n 1, 1) := by decide +kernel
theorem dX12_reset_22 : decode cX12_reset 22 = .ok (.invokevirtual 69, 3) := by decide +kernel
theorem dX12_reset_25 : decode cX12_reset 25 = .ok (.checkcast 48, 3) := by decide +kernel
theorem dX12_reset_28 : decode cX12_reset 28 = .ok (.getfield 89, 3) := by decide +kernel
theorem dX12_reset_31 : decode cX12_reset 31 = .ok (.ifCond .eq 16, 3) := by decide +kernel
theorem dX12_reset_34 : decode cX12_reset 34 = .ok (.aload_n 0, 1) := by decide +kernel
theorem dX12_reset_35 : decode cX12_reset 35 = .ok (.getfield 10, 3) := by decide +kernel
theorem dX12_reset_38 : decode cX12_reset 38 = .ok (.getfield 95, 3) := by decide +kernel
theorem dX12_reset_41 : decode cX12_reset 41 = .ok (.sipush 300, 3) := by decide +kernel
theorem dX12_reset_44 : decode cX12_reset 44 = .ok (.if_icmp .ge 7, 3) := by decide +kernel
theorem dX12_reset_47 : decode cX12_reset 47 = .ok (.iconst 1, 1) := by decide +kernel
theorem dX12_reset_48 : decode cX12_reset 48 = .ok (.goto 4, 3) := by decide +kernel
theorem dX12_reset_51 : decode cX12_reset 51 = .ok (.iconst 0, 1) := by decide +kernel
theorem dX12_reset_52 : decode cX12_reset 52 = .ok (.iconst 2, 1) := by decide +kernel
theorem dX12_reset_53 : decode cX12_reset 53 = .ok (.invokevirtual 27, 3) := by decide +kernel
theorem dX12_reset_56 : decode cX12_reset 56 = .ok (.ifCond .eq 5, 3) := by decide +kernel
theorem dX12_reset_59 : decode cX12_reset 59 = .ok (.iconst 0, 1) := by decide +kernel
theorem dX12_reset_60 : decode cX12_reset 60 = .ok (.ireturn, 1) := by decide +kernel
theorem dX12_reset_61 : decode cX12_reset 61 = .ok (.aload_n 0, 1) := by decide +kernel
theorem dX12_reset_62 : decode cX12_reset 62 = .ok (.getfield 10, 3) := by decide +kernel
theorem dX12_reset_65 : decode cX12_reset 65 = .ok (.getfield 31, 3) := by decide +kernel
theorem dX12_reset_68 : decode cX12_reset 68 = .ok (.iload_n 1, 1) := by decide +kernel
theorem dX12_reset_69 : decode cX12_reset 69 = .ok (.invokevirtual 69, 3) := by decide +kernel
theorem dX12_reset_72 : decode cX12_reset 72 = .ok (.checkcast 48, 3) := by decide +kernel
theorem dX12_reset_75 : decode cX12_reset 75 = .ok (.iconst 0, 1) := by decide +kernel
theorem dX12_reset_76 : decode cX12_reset 76 = .ok (.putfield 89, 3) := by decide +kernel
theorem dX12_reset_79 : decode cX12_reset 79 = .ok (.aload_n 0, 1) := by decide +kernel
theorem dX12_reset_80 : decode cX12_reset 80 = .ok (.getfield 10, 3) := by decide +kernel
theorem dX12_reset_83 : decode cX12_reset 83 = .ok (.getfield 31, 3) := by decide +kernel
theorem dX12_reset_86 : decode cX12_reset 86 = .ok (.iload_n 1, 1) := by decide +kernel
theorem dX12_reset_87 : decode cX12_reset 87 = .ok (.invokevirtual 69, 3) := by decide +kernel
theorem dX12_reset_90 : decode cX12_reset 90 = .ok (.checkcast 48, 3) := by decide +kernel
theorem dX12_reset_93 : decode cX12_reset 93 = .ok (.getfield 98, 3) := by decide +kernel
theorem dX12_reset_96 : decode cX12_reset 96 = .ok (.ireturn, 1) := by decide +kernel
theorem dX12_lamp_0 : decode cX12_lamp 0 = .ok (.aload_n 0, 1) := by decide +kernel
theorem dX12_lamp_1 : decode cX12_lamp 1 = .ok (.aload_n 0, 1) := by decide +kernel
theorem dX12_lamp_2 : decode cX12_lamp 2 = .ok (.iload_n 1, 1) := by decide +kernel
theorem dX12_lamp_3 : decode cX12_lamp 3 = .ok (.invokevirtual 79, 3) := by decide +kernel
theorem dX12_lamp_6 : decode cX12_lamp 6 = .ok (.iconst 1, 1) := by decide +kernel
theorem dX12_lamp_7 : decode cX12_lamp 7 = .ok (.invokevirtual 45, 3) := by decide +kernel
theorem dX12_lamp_10 : decode cX12_lamp 10 = .ok (.ifCond .eq 5, 3) := by decide +kernel
theorem dX12_lamp_13 : decode cX12_lamp 13 = .ok (.iconst 0, 1) := by decide +kernel
theorem dX12_lamp_14 : decode cX12_lamp 14 = .ok (.ireturn, 1) := by decide +kernel
theorem dX12_lamp_15 : decode cX12_lamp 15 = .ok (.aload_n 0, 1) := by decide +kernel
theorem dX12_lamp_16 : decode cX12_lamp 16 = .ok (.getfield 10, 3) := by decide +kernel
theorem dX12_lamp_19 : decode cX12_lamp 19 = .ok (.getfield 42, 3) := by decide +kernel
theorem dX12_lamp_22 : decode cX12_lamp 22 = .ok (.iload_n 1, 1) := by decide +kernel
theorem dX12_lamp_23 : decode cX12_lamp 23 = .ok (.invokevirtual 69, 3) := by decide +kernel
theorem dX12_lamp_26 : decode cX12_lamp 26 = .ok (.checkcast 61, 3) := by decide +kernel
theorem dX12_lamp_29 : decode cX12_lamp 29 = .ok (.getfield 101, 3) := by decide +kernel
theorem dX12_lamp_32 : decode cX12_lamp 32 = .ok (.istore_n 3, 1) := by decide +kernel
theorem dX12_lamp_33 : decode cX12_lamp 33 = .ok (.aload_n 0, 1) := by decide +kernel
theorem dX12_lamp_34 : decode cX12_lamp 34 = .ok (.getfield 10, 3) := by decide +kernel
theorem dX12_lamp_37 : decode cX12_lamp 37 = .ok (.getfield 42, 3) := by decide +kernel
theorem dX12_lamp_40 : decode cX12_lamp 40 = .ok (.iload_n 1, 1) := by decide +kernel
theorem dX12_lamp_41 : decode cX12_lamp 41 = .ok (.invokevirtual 69, 3) := by decide +kernel
theorem dX12_lamp_44 : decode cX12_lamp 44 = .ok (.checkcast 61, 3) := by decide +kernel
theorem dX12_lamp_47 : decode cX12_lamp 47 = .ok (.iload_n 2, 1) := by decide +kernel
theorem dX12_lamp_48 : decode cX12_lamp 48 = .ok (.putfield 101, 3) := by decide +kernel
theorem dX12_lamp_51 : decode cX12_lamp 51 = .ok (.iload_n 3, 1) := by decide +kernel
theorem dX12_lamp_52 : decode cX12_lamp 52 = .ok (.ireturn, 1) := by decide +kernel
theorem dX12_fault_0 : decode cX12_fault 0 = .ok (.aload_n 0, 1) := by decide +kernel
theorem dX12_fault_1 : decode cX12_fault 1 = .ok (.aload_n 0, 1) := by decide +kernel
theorem dX12_fault_2 : decode cX12_fault 2 = .ok (.iload_n 1, 1) := by decide +kernel
theorem dX12_fault_3 : decode cX12_fault 3 = .ok (.invokevirtual 79, 3) := by decide +kernel
theorem dX12_fault_6 : decode cX12_fault 6 = .ok (.iconst 1, 1) := by decide +kernel
theorem dX12_fault_7 : decode cX12_fault 7 = .ok (.invokevirtual 45, 3) := by decide +kernel
theorem dX12_fault_10 : decode cX12_fault 10 = .ok (.ifCond .eq 5, 3) := by decide +kernel
theorem dX12_fault_13 : decode cX12_fault 13 = .ok (.iconst 0, 1) := by decide +kernel
theorem dX12_fault_14 : decode cX12_fault 14 = .ok (.ireturn, 1) := by decide +kernel
theorem dX12_fault_15 : decode cX12_fault 15 = .ok (.aload_n 0, 1) := by decide +kernel
theorem dX12_fault_16 : decode cX12_fault 16 = .ok (.getfield 10, 3) := by decide +kernel
theorem dX12_fault_19 : decode cX12_fault 19 = .ok (.getfield 42, 3) := by decide +kernel
theorem dX12_fault_22 : decode cX12_fault 22 = .ok (.iload_n 1, 1) := by decide +kernel
theorem dX12_fault_23 : decode cX12_fault 23 = .ok (.invokevirtual 69, 3) := by decide +kernel
theorem dX12_fault_26 : decode cX12_fault 26 = .ok (.checkcast 61, 3) := by decide +kernel
theorem dX12_fault_29 : decode cX12_fault 29 = .ok (.astore 4, 2) := by decide +kernel
theorem dX12_fault_31 : decode cX12_fault 31 = .ok (.aload 4, 2) := by decide +kernel
theorem dX12_fault_33 : decode cX12_fault 33 = .ok (.getfield 104, 3) := by decide +kernel
theorem dX12_fault_36 : decode cX12_fault 36 = .ok (.istore 5, 2) := by decide +kernel
theorem dX12_fault_38 : decode cX12_fault 38 = .ok (.aload 4, 2) := by decide +kernel
theorem dX12_fault_40 : decode cX12_fault 40 = .ok (.iload_n 2, 1) := by decide +kernel
theorem dX12_fault_41 : decode cX12_fault 41 = .ok (.putfield 104, 3) := by decide +kernel
theorem dX12_fault_44 : decode cX12_fault 44 = .ok (.aload 4, 2) := by decide +kernel
theorem dX12_fault_46 : decode cX12_fault 46 = .ok (.iload_n 3, 1) := by decide +kernel
theorem dX12_fault_47 : decode cX12_fault 47 = .ok (.putfield 107, 3) := by decide +kernel
theorem dX12_fault_50 : decode cX12_fault 50 = .ok (.iload 5, 2) := by decide +kernel
theorem dX12_fault_52 : decode cX12_fault 52 = .ok (.ireturn, 1) := by decide +kernel
theorem dX12_swim_0 : decode cX12_swim 0 = .ok (.aload_n 0, 1) := by decide +kernel
theorem dX12_swim_1 : decode cX12_swim 1 = .ok (.iconst 0, 1) := by decide +kernel
theorem dX12_swim_2 : decode cX12_swim 2 = .ok (.putfield 23, 3) := by decide +kernel
theorem dX12_swim_5 : decode cX12_swim 5 = .ok (.aload_n 0, 1) := by decide +kernel
theorem dX12_swim_6 : decode cX12_swim 6 = .ok (.getfield 10, 3) := by decide +kernel
theorem dX12_swim_9 : decode cX12_swim 9 = .ok (.getfield 82, 3) := by decide +kernel
theorem dX12_swim_12 : decode cX12_swim 12 = .ok (.istore_n 2, 1) := by decide +kernel
theorem dX12_swim_13 : decode cX12_swim 13 = .ok (.aload_n 0, 1) := by decide +kernel
theorem dX12_swim_14 : decode cX12_swim 14 = .ok (.getfield 10, 3) := by decide +kernel
theorem dX12_swim_17 : decode cX12_swim 17 = .ok (.iload_n 1, 1) := by decide +kernel
theorem dX12_swim_18 : decode cX12_swim 18 = .ok (.putfield 82, 3) := by decide +kernel
theorem dX12_swim_21 : decode cX12_swim 21 = .ok (.iload_n 1, 1) := by decide +kernel
theorem dX12_swim_22 : decode cX12_swim 22 = .ok (.ifCond .ne 5, 3) := by decide +kernel
theorem dX12_swim_25 : decode cX12_swim 25 = .ok (.iload_n 2, 1) := by decide +kernel
theorem dX12_swim_26 : decode cX12_swim 26 = .ok (.ireturn, 1) := by decide +kernel
theorem dX12_swim_27 : decode cX12_swim 27 = .ok (.iconst 0, 1) := by decide +kernel
theorem dX12_swim_28 : decode cX12_swim 28 = .ok (.istore_n 3, 1) := by decide +kernel
theorem dX12_swim_29 : decode cX12_swim 29 = .ok (.iload_n 3, 1) := by decide +kernel
theorem dX12_swim_30 : decode cX12_swim 30 = .ok (.aload_n 0, 1) := by decide +kernel
theorem dX12_swim_31 : decode cX12_swim 31 = .ok (.getfield 10, 3) := by decide +kernel
theorem dX12_swim_34 : decode cX12_swim 34 = .ok (.getfield 42, 3) := by decide +kernel
theorem dX12_swim_37 : decode cX12_swim 37 = .ok (.invokevirtual 34, 3) := by decide +kernel
theorem dX12_swim_40 : decode cX12_swim 40 = .ok (.if_icmp .ge 27, 3) := by decide +kernel
theorem dX12_swim_43 : decode cX12_swim 43 = .ok (.aload_n 0, 1) := by decide +kernel
theorem dX12_swim_44 : decode cX12_swim 44 = .ok (.getfield 10, 3) := by decide +kernel
theorem dX12_swim_47 : decode cX12_swim 47 = .ok (.getfield 42, 3) := by decide +kernel
theorem dX12_swim_50 : decode cX12_swim 50 = .ok (.iload_n 3, 1) := by decide +kernel
theorem dX12_swim_51 : decode cX12_swim 51 = .ok (.invokevirtual 69, 3) := by decide +kernel
theorem dX12_swim_54 : decode cX12_swim 54 = .ok (.checkcast 61, 3) := by decide +kernel
theorem dX12_swim_57 : decode cX12_swim 57 = .ok (.iconst 0, 1) := by decide +kernel
theorem dX12_swim_58 : decode cX12_swim 58 = .ok (.putfield 86, 3) := by decide +kernel
theorem dX12_swim_61 : decode cX12_swim 61 = .ok (.iinc 3 1, 3) := by decide +kernel
theorem dX12_swim_64 : decode cX12_swim 64 = .ok (.goto (-35), 3) := by decide +kernel
theorem dX12_swim_67 : decode cX12_swim 67 = .ok (.iconst 0, 1) := by decide +kernel
theorem dX12_swim_68 : decode cX12_swim 68 = .ok (.istore_n 3, 1) := by decide +kernel
theorem dX12_swim_69 : decode cX12_swim 69 = .ok (.iload_n 3, 1) := by decide +kernel
theorem dX12_swim_70 : decode cX12_swim 70 = .ok (.aload_n 0, 1) := by decide +kernel
theorem dX12_swim_71 : decode cX12_swim 71 = .ok (.getfield 10, 3) := by decide +kernel
theorem dX12_swim_74 : decode cX12_swim 74 = .ok (.getfield 31, 3) := by decide +kernel
theorem dX12_swim_77 : decode cX12_swim 77 = .ok (.invokevirtual 34, 3) := by decide +kernel
theorem dX12_swim_80 : decode cX12_swim 80 = .ok (.if_icmp .ge 27, 3) := by decide +kernel
theorem dX12_swim_83 : decode cX12_swim 83 = .ok (.aload_n 0, 1) := by decide +kernel
theorem dX12_swim_84 : decode cX12_swim 84 = .ok (.getfield 10, 3) := by decide +kernel
theorem dX12_swim_87 : decode cX12_swim 87 = .ok (.getfield 31, 3) := by decide +kernel
theorem dX12_swim_90 : decode cX12_swim 90 = .ok (.iload_n 3, 1) := by decide +kernel
theorem dX12_swim_91 : decode cX12_swim 91 = .ok (.invokevirtual 69, 3) := by decide +kernel
theorem dX12_swim_94 : decode cX12_swim 94 = .ok (.checkcast 48, 3) := by decide +kernel
theorem dX12_swim_97 : decode cX12_swim 97 = .ok (.iconst 0, 1) := by decide +kernel
theorem dX12_swim_98 : decode cX12_swim 98 = .ok (.putfield 92, 3) := by decide +kernel
theorem dX12_swim_101 : decode cX12_swim 101 = .ok (.iinc 3 1, 3) := by decide +kernel
theorem dX12_swim_104 : decode cX12_swim 104 = .ok (.goto (-35), 3) := by decide +kernel
theorem dX12_swim_107 : decode cX12_swim 107 = .ok (.aload_n 0, 1) := by decide +kernel
theorem dX12_swim_108 : decode cX12_swim 108 = .ok (.getfield 10, 3) := by decide +kernel
theorem dX12_swim_111 : decode cX12_swim 111 = .ok (.invokevirtual 110, 3) := by decide +kernel
theorem dX12_swim_114 : decode cX12_swim 114 = .ok (.iload_n 2, 1) := by decide +kernel
theorem dX12_swim_115 : decode cX12_swim 115 = .ok (.ireturn, 1) := by decide +kernel
theorem dX12_fill_0 : decode cX12_fill 0 = .ok (.aload_n 0, 1) := by decide +kernel
theorem dX12_fill_1 : decode cX12_fill 1 = .ok (.iload_n 1, 1) := by decide +kernel
theorem dX12_fill_2 : decode cX12_fill 2 = .ok (.iconst 1, 1) := by decide +kernel
theorem dX12_fill_3 : decode cX12_fill 3 = .ok (.sipush 5000, 3) := by decide +kernel
theorem dX12_fill_6 : decode cX12_fill 6 = .ok (.invokestatic 38, 3) := by decide +kernel
theorem dX12_fill_9 : decode cX12_fill 9 = .ok (.ifCond .ne 7, 3) := by decide +kernel
theorem dX12_fill_12 : decode cX12_fill 12 = .ok (.iconst 1, 1) := by decide +kernel
theorem dX12_fill_13 : decode cX12_fill 13 = .ok (.goto 4, 3) := by decide +kernel
theorem dX12_fill_16 : decode cX12_fill 16 = .ok (.iconst 0, 1) := by decide +kernel
theorem dX12_fill_17 : decode cX12_fill 17 = .ok (.iconst 1, 1) := by decide +kernel
theorem dX12_fill_18 : decode cX12_fill 18 = .ok (.invokevirtual 45, 3) := by decide +kernel
theorem dX12_fill_21 : decode cX12_fill 21 = .ok (.ifCond .eq 5, 3) := by decide +kernel
theorem dX12_fill_24 : decode cX12_fill 24 = .ok (.iconst 0, 1) := by decide +kernel
theorem dX12_fill_25 : decode cX12_fill 25 = .ok (.ireturn, 1) := by decide +kernel
theorem dX12_fill_26 : decode cX12_fill 26 = .ok (.aload_n 0, 1) := by decide +kernel
theorem dX12_fill_27 : decode cX12_fill 27 = .ok (.getfield 10, 3) := by decide +kernel
theorem dX12_fill_30 : decode cX12_fill 30 = .ok (.iload_n 1, 1) := by decide +kernel
theorem dX12_fill_31 : decode cX12_fill 31 = .ok (.invokevirtual 113, 3) := by decide +kernel
theorem dX12_fill_34 : decode cX12_fill 34 = .ok (.aload_n 0, 1) := by decide +kernel
theorem dX12_fill_35 : decode cX12_fill 35 = .ok (.getfield 10, 3) := by decide +kernel
theorem dX12_fill_38 : decode cX12_fill 38 = .ok (.getfield 95, 3) := by decide +kernel
theorem dX12_fill_41 : decode cX12_fill 41 = .ok (.ireturn, 1) := by decide +kernel
theorem dX12_call_0 : decode cX12_call 0 = .ok (.aload_n 0, 1) := by decide +kernel
theorem dX12_call_1 : decode cX12_call 1 = .ok (.aload_n 0, 1) := by decide +kernel
theorem dX12_call_2 : decode cX12_call 2 = .ok (.iload_n 1, 1) := by decide +kernel
theorem dX12_call_3 : decode cX12_call 3 = .ok (.invokevirtual 66, 3) := by decide +kernel
theorem dX12_call_6 : decode cX12_call 6 = .ok (.iconst 1, 1) := by decide +kernel
theorem dX12_call_7 : decode cX12_call 7 = .ok (.invokevirtual 45, 3) := by decide +kernel
theorem dX12_call_10 : decode cX12_call 10 = .ok (.ifCond .ne 54, 3) := by decide +kernel
theorem dX12_call_13 : decode cX12_call 13 = .ok (.aload_n 0, 1) := by decide +kernel
theorem dX12_call_14 : decode cX12_call 14 = .ok (.iload_n 2, 1) := by decide +kernel
theorem dX12_call_15 : decode cX12_call 15 = .ok (.iconst 0, 1) := by decide +kernel
theorem dX12_call_16 : decode cX12_call 16 = .ok (.bipush 9, 2) := by decide +kernel
theorem dX12_call_18 : decode cX12_call 18 = .ok (.invokestatic 38, 3) := by decide +kernel
theorem dX12_call_21 : decode cX12_call 21 = .ok (.ifCond .ne 7, 3) := by decide +kernel
theorem dX12_call_24 : decode cX12_call 24 = .ok (.iconst 1, 1) := by decide +kernel
theorem dX12_call_25 : decode cX12_call 25 = .ok (.goto 4, 3) := by decide +kernel
theorem dX12_call_28 : decode cX12_call 28 = .ok (.iconst 0, 1) := by decide +kernel
theorem dX12_call_29 : decode cX12_call 29 = .ok (.iconst 2, 1) := by decide +kernel
theorem dX12_call_30 : decode cX12_call 30 = .ok (.invokevirtual 27, 3) := by decide +kernel
theorem dX12_call_33 : decode cX12_call 33 = .ok (.ifCond .ne 31, 3) := by decide +kernel
theorem dX12_call_36 : decode cX12_call 36 = .ok (.aload_n 0, 1) := by decide +kernel
theorem dX12_call_37 : decode cX12_call 37 = .ok (.aload_n 0, 1) := by decide +kernel
theorem dX12_call_38 : decode cX12_call 38 = .ok (.getfield 10, 3) := by decide +kernel
theorem dX12_call_41 : decode cX12_call 41 = .ok (.getfield 116, 3) := by decide +kernel
theorem dX12_call_44 : decode cX12_call 44 = .ok (.invokevirtual 34, 3) := by decide +kernel
theorem dX12_call_47 : decode cX12_call 47 = .ok (.bipush 20, 2) := by decide +kernel
theorem dX12_call_49 : decode cX12_call 49 = .ok (.if_icmp .ne 7, 3) := by decide +kernel
theorem dX12_call_52 : decode cX12_call 52 = .ok (.iconst 1, 1) := by decide +kernel
theorem dX12_call_53 : decode cX12_call 53 = .ok (.goto 4, 3) := by decide +kernel
theorem dX12_call_56 : decode cX12_call 56 = .ok (.iconst 0, 1) := by decide +kernel
theorem dX12_call_57 : decode cX12_call 57 = .ok (.iconst 3, 1) := by decide +kernel
theorem dX12_call_58 : decode cX12_call 58 = .ok (.invokevirtual 27, 3) := by decide +kernel
theorem dX12_call_61 : decode cX12_call 61 = .ok (.ifCond .eq 5, 3) := by decide +kernel
theorem dX12_call_64 : decode cX12_call 64 = .ok (.iconst 0, 1) := by decide +kernel
theorem dX12_call_65 : decode cX12_call 65 = .ok (.ireturn, 1) := by decide +kernel
theorem dX12_call_66 : decode cX12_call 66 = .ok (.aload_n 0, 1) := by decide +kernel
theorem dX12_call_67 : decode cX12_call 67 = .ok (.getfield 19, 3) := by decide +kernel
theorem dX12_call_70 : decode cX12_call 70 = .ok (.iload_n 1, 1) := by decide +kernel
theorem dX12_call_71 : decode cX12_call 71 = .ok (.invokevirtual 69, 3) := by decide +kernel
theorem dX12_call_74 : decode cX12_call 74 = .ok (.checkcast 16, 3) := by decide +kernel
theorem dX12_call_77 : decode cX12_call 77 = .ok (.invokevirtual 34, 3) := by decide +kernel
theorem dX12_call_80 : decode cX12_call 80 = .ok (.anewarray 119, 3) := by decide +kernel
theorem dX12_call_83 : decode cX12_call 83 = .ok (.astore_n 3, 1) := by decide +kernel
theorem dX12_call_84 : decode cX12_call 84 = .ok (.iconst 0, 1) := by decide +kernel
theorem dX12_call_85 : decode cX12_call 85 = .ok (.istore 4, 2) := by decide +kernel
theorem dX12_call_87 : decode cX12_call 87 = .ok (.iload 4, 2) := by decide +kernel
theorem dX12_call_89 : decode cX12_call 89 = .ok (.aload_n 3, 1) := by decide +kernel
theorem dX12_call_90 : decode cX12_call 90 = .ok (.arraylength, 1) := by decide +kernel
theorem dX12_call_91 : decode cX12_call 91 = .ok (.if_icmp .ge 32, 3) := by decide +kernel
theorem dX12_call_94 : decode cX12_call 94 = .ok (.aload_n 3, 1) := by decide +kernel
theorem dX12_call_95 : decode cX12_call 95 = .ok (.iload 4, 2) := by decide +kernel
theorem dX12_call_97 : decode cX12_call 97 = .ok (.aload_n 0, 1) := by decide +kernel
theorem dX12_call_98 : decode cX12_call 98 = .ok (.getfield 19, 3) := by decide +kernel
theorem dX12_call_101 : decode cX12_call 101 = .ok (.iload_n 1, 1) := by decide +kernel
theorem dX12_call_102 : decode cX12_call 102 = .ok (.invokevirtual 69, 3) := by decide +kernel
theorem dX12_call_105 : decode cX12_call 105 = .ok (.checkcast 16, 3) := by decide +kernel
theorem dX12_call_108 : decode cX12_call 108 = .ok (.iload 4, 2) := by decide +kernel
theorem dX12_call_110 : decode cX12_call 110 = .ok (.invokevirtual 69, 3) := by decide +kernel
theorem dX12_call_113 : decode cX12_call 113 = .ok (.checkcast 119, 3) := by decide +kernel
theorem dX12_call_116 : decode cX12_call 116 = .ok (.aastore, 1) := by decide +kernel
theorem dX12_call_117 : decode cX12_call 117 = .ok (.iinc 4 1, 3) := by decide +kernel
theorem dX12_call_120 : decode cX12_call 120 = .ok (.goto (-33), 3) := by decide +kernel
theorem dX12_call_123 : decode cX12_call 123 = .ok (.aload_n 0, 1) := by decide +kernel
theorem dX12_call_124 : decode cX12_call 124 = .ok (.getfield 10, 3) := by decide +kernel
theorem dX12_call_127 : decode cX12_call 127 = .ok (.getfield 116, 3) := by decide +kernel
theorem dX12_call_130 : decode cX12_call 130 = .ok (.new 121, 3) := by decide +kernel
theorem dX12_call_133 : decode cX12_call 133 = .ok (.dup, 1) := by decide +kernel
theorem dX12_call_134 : decode cX12_call 134 = .ok (.aload_n 0, 1) := by decide +kernel
theorem dX12_call_135 : decode cX12_call 135 = .ok (.getfield 10, 3) := by decide +kernel
theorem dX12_call_138 : decode cX12_call 138 = .ok (.getfield 123, 3) := by decide +kernel
theorem dX12_call_141 : decode cX12_call 141 = .ok (.iload_n 2, 1) := by decide +kernel
theorem dX12_call_142 : decode cX12_call 142 = .ok (.aload_n 3, 1) := by decide +kernel
theorem dX12_call_143 : decode cX12_call 143 = .ok (.invokespecial 126, 3) := by decide +kernel
theorem dX12_call_146 : decode cX12_call 146 = .ok (.invokevirtual 53, 3) := by decide +kernel
theorem dX12_call_149 : decode cX12_call 149 = .ok (.pop, 1) := by decide +kernel
theorem dX12_call_150 : decode cX12_call 150 = .ok (.aload_n 0, 1) := by decide +kernel
theorem dX12_call_151 : decode cX12_call 151 = .ok (.getfield 10, 3) := by decide +kernel
theorem dX12_call_154 : decode cX12_call 154 = .ok (.getfield 116, 3) := by decide +kernel
theorem dX12_call_157 : decode cX12_call 157 = .ok (.invokevirtual 34, 3) := by decide +kernel
theorem dX12_call_160 : decode cX12_call 160 = .ok (.iconst 1, 1) := by decide +kernel
theorem dX12_call_161 : decode cX12_call 161 = .ok (.isub, 1) := by decide +kernel
theorem dX12_call_162 : decode cX12_call 162 = .ok (.ireturn, 1) := by decide +kernel
theorem dX12_pass_0 : decode cX12_pass 0 = .ok (.aload_n 0, 1) := by decide +kernel
theorem dX12_pass_1 : decode cX12_pass 1 = .ok (.iload_n 1, 1) := by decide +kernel
theorem dX12_pass_2 : decode cX12_pass 2 = .ok (.iconst 1, 1) := by decide +kernel
theorem dX12_pass_3 : decode cX12_pass 3 = .ok (.bipush 100, 2) := by decide +kernel
theorem dX12_pass_5 : decode cX12_pass 5 = .ok (.invokestatic 38, 3) := by decide +kernel
theorem dX12_pass_8 : decode cX12_pass 8 = .ok (.ifCond .ne 7, 3) := by decide +kernel
theorem dX12_pass_11 : decode cX12_pass 11 = .ok (.iconst 1, 1) := by decide +kernel
theorem dX12_pass_12 : decode cX12_pass 12 = .ok (.goto 4, 3) := by decide +kernel
theorem dX12_pass_15 : decode cX12_pass 15 = .ok (.iconst 0, 1) := by decide +kernel
theorem dX12_pass_16 : decode cX12_pass 16 = .ok (.iconst 1, 1) := by decide +kernel
theorem dX12_pass_17 : decode cX12_pass 17 = .ok (.invokevirtual 45, 3) := by decide +kernel
theorem dX12_pass_20 : decode cX12_pass 20 = .ok (.ifCond .ne 31, 3) := by decide +kernel
theorem dX12_pass_23 : decode cX12_pass 23 = .ok (.aload_n 0, 1) := by decide +kernel
theorem dX12_pass_24 : decode cX12_pass 24 = .ok (.aload_n 0, 1) := by decide +kernel
theorem dX12_pass_25 : decode cX12_pass 25 = .ok (.getfield 10, 3) := by decide +kernel
theorem dX12_pass_28 : decode cX12_pass 28 = .ok (.getfield 123, 3) := by decide +kernel
theorem dX12_pass_31 : decode cX12_pass 31 = .ok (.iload_n 1, 1) := by decide +kernel
theorem dX12_pass_32 : decode cX12_pass 32 = .ok (.iadd, 1) := by decide +kernel
theorem dX12_pass_33 : decode cX12_pass 33 = .ok (.sipush 5000, 3) := by decide +kernel
theorem dX12_pass_36 : decode cX12_pass 36 = .ok (.if_icmp .le 7, 3) := by decide +kernel
theorem dX12_pass_39 : decode cX12_pass 39 = .ok (.iconst 1, 1) := by decide +kernel
theorem dX12_pass_40 : decode cX12_pass 40 = .ok (.goto 4, 3) := by decide +kernel
theorem dX12_pass_43 : decode cX12_pass 43 = .ok (.iconst 0, 1) := by decide +kernel
theorem dX12_pass_44 : decode cX12_pass 44 = .ok (.iconst 2, 1) := by decide +kernel
theorem dX12_pass_45 : decode cX12_pass 45 = .ok (.invokevirtual 27, 3) := by decide +kernel
theorem dX12_pass_48 : decode cX12_pass 48 = .ok (.ifCond .eq 5, 3) := by decide +kernel
theorem dX12_pass_51 : decode cX12_pass 51 = .ok (.iconst 0, 1) := by decide +kernel
theorem dX12_pass_52 : decode cX12_pass 52 = .ok (.ireturn, 1) := by decide +kernel
theorem dX12_pass_53 : decode cX12_pass 53 = .ok (.iconst 0, 1) := by decide +kernel
theorem dX12_pass_54 : decode cX12_pass 54 = .ok (.istore_n 2, 1) := by decide +kernel
theorem dX12_pass_55 : decode cX12_pass 55 = .ok (.iconst 0, 1) := by decide +kernel
theorem dX12_pass_56 : decode cX12_pass 56 = .ok (.istore_n 3, 1) := by decide +kernel
theorem dX12_pass_57 : decode cX12_pass 57 = .ok (.iload_n 3, 1) := by decide +kernel
theorem dX12_pass_58 : decode cX12_pass 58 = .ok (.iload_n 1, 1) := by decide +kernel
theorem dX12_pass_59 : decode cX12_pass 59 = .ok (.if_icmp .ge 19, 3) := by decide +kernel
theorem dX12_pass_62 : decode cX12_pass 62 = .ok (.iload_n 2, 1) := by decide +kernel
theorem dX12_pass_63 : decode cX12_pass 63 = .ok (.aload_n 0, 1) := by decide +kernel
theorem dX12_pass_64 : decode cX12_pass 64 = .ok (.getfield 10, 3) := by decide +kernel
theorem dX12_pass_67 : decode cX12_pass 67 = .ok (.invokevirtual 129, 3) := by decide +kernel
theorem dX12_pass_70 : decode cX12_pass 70 = .ok (.iadd, 1) := by decide +kernel
theorem dX12_pass_71 : decode cX12_pass 71 = .ok (.istore_n 2, 1) := by decide +kernel
theorem dX12_pass_72 : decode cX12_pass 72 = .ok (.iinc 3 1, 3) := by decide +kernel
theorem dX12_pass_75 : decode cX12_pass 75 = .ok (.goto (-18), 3) := by decide +kernel
theorem dX12_pass_78 : decode cX12_pass 78 = .ok (.iload_n 2, 1) := by decide +kernel
theorem dX12_pass_79 : decode cX12_pass 79 = .ok (.ireturn, 1) := by decide +kernel
theorem dX12_ofPump_0 : decode cX12_ofPump 0 = .ok (.aload_n 0, 1) := by decide +kernel
theorem dX12_ofPump_1 : decode cX12_ofPump 1 = .ok (.aload_n 0, 1) := by decide +kernel
theorem dX12_ofPump_2 : decode cX12_ofPump 2 = .ok (.iload_n 1, 1) := by decide +kernel
theorem dX12_ofPump_3 : decode cX12_ofPump 3 = .ok (.invokevirtual 57, 3) := by decide +kernel
theorem dX12_ofPump_6 : decode cX12_ofPump 6 = .ok (.iconst 1, 1) := by decide +kernel
theorem dX12_ofPump_7 : decode cX12_ofPump 7 = .ok (.invokevirtual 45, 3) := by decide +kernel
theorem dX12_ofPump_10 : decode cX12_ofPump 10 = .ok (.ifCond .ne 26, 3) := by decide +kernel
theorem dX12_ofPump_13 : decode cX12_ofPump 13 = .ok (.aload_n 0, 1) := by decide +kernel
theorem dX12_ofPump_14 : decode cX12_ofPump 14 = .ok (.iload_n 2, 1) := by decide +kernel
theorem dX12_ofPump_15 : decode cX12_ofPump 15 = .ok (.iconst 0, 1) := by decide +kernel
theorem dX12_ofPump_16 : decode cX12_ofPump 16 = .ok (.bipush 6, 2) := by decide +kernel
theorem dX12_ofPump_18 : decode cX12_ofPump 18 = .ok (.invokestatic 38, 3) := by decide +kernel
theorem dX12_ofPump_21 : decode cX12_ofPump 21 = .ok (.ifCond .ne 7, 3) := by decide +kernel
theorem dX12_ofPump_24 : decode cX12_ofPump 24 = .ok (.iconst 1, 1) := by decide +kernel
theorem dX12_ofPump_25 : decode cX12_ofPump 25 = .ok (.goto 4, 3) := by decide +kernel
theorem dX12_ofPump_28 : decode cX12_ofPump 28 = .ok (.iconst 0, 1) := by decide +kernel
theorem dX12_ofPump_29 : decode cX12_ofPump 29 = .ok (.iconst 2, 1) := by decide +kernel
theorem dX12_ofPump_30 : decode cX12_ofPump 30 = .ok (.invokevirtual 27, 3) := by decide +kernel
theorem dX12_ofPump_33 : decode cX12_ofPump 33 = .ok (.ifCond .eq 7, 3) := by decide +kernel
theorem dX12_ofPump_36 : decode cX12_ofPump 36 = .ok (.iconst 0, 1) := by decide +kernel
theorem dX12_ofPump_37 : decode cX12_ofPump 37 = .ok (.goto 9, 3) := by decide +kernel
theorem dX12_ofPump_40 : decode cX12_ofPump 40 = .ok (.aload_n 0, 1) := by decide +kernel
theorem dX12_ofPump_41 : decode cX12_ofPump 41 = .ok (.iload_n 1, 1) := by decide +kernel
theorem dX12_ofPump_42 : decode cX12_ofPump 42 = .ok (.iload_n 2, 1) := by decide +kernel
theorem dX12_ofPump_43 : decode cX12_ofPump 43 = .ok (.invokevirtual 148, 3) := by decide +kernel
theorem dX12_ofPump_46 : decode cX12_ofPump 46 = .ok (.ireturn, 1) := by decide +kernel
theorem dX12_ofJet_0 : decode cX12_ofJet 0 = .ok (.aload_n 0, 1) := by decide +kernel
theorem dX12_ofJet_1 : decode cX12_ofJet 1 = .ok (.aload_n 0, 1) := by decide +kernel
theorem dX12_ofJet_2 : decode cX12_ofJet 2 = .ok (.iload_n 1, 1) := by decide +kernel
theorem dX12_ofJet_3 : decode cX12_ofJet 3 = .ok (.invokevirtual 79, 3) := by decide +kernel
theorem dX12_ofJet_6 : decode cX12_ofJet 6 = .ok (.iconst 1, 1) := by decide +kernel
theorem dX12_ofJet_7 : decode cX12_ofJet 7 = .ok (.invokevirtual 45, 3) := by decide +kernel
theorem dX12_ofJet_10 : decode cX12_ofJet 10 = .ok (.ifCond .ne 26, 3) := by decide +kernel
theorem dX12_ofJet_13 : decode cX12_ofJet 13 = .ok (.aload_n 0, 1) := by decide +kernel
theorem dX12_ofJet_14 : decode cX12_ofJet 14 = .ok (.iload_n 2, 1) := by decide +kernel
theorem dX12_ofJet_15 : decode cX12_ofJet 15 = .ok (.iconst 0, 1) := by decide +kernel
theorem dX12_ofJet_16 : decode cX12_ofJet 16 = .ok (.bipush 11, 2) := by decide +kernel
theorem dX12_ofJet_18 : decode cX12_ofJet 18 = .ok (.invokestatic 38, 3) := by decide +kernel
theorem dX12_ofJet_21 : decode cX12_ofJet 21 = .ok (.ifCond .ne 7, 3) := by decide +kernel
theorem dX12_ofJet_24 : decode cX12_ofJet 24 = .ok (.iconst 1, 1) := by decide +kernel
theorem dX12_ofJet_25 : decode cX12_ofJet 25 = .ok (.goto 4, 3) := by decide +kernel
theorem dX12_ofJet_28 : decode cX12_ofJet 28 = .ok (.iconst 0, 1) := by decide +kernel
theorem dX12_ofJet_29 : decode cX12_ofJet 29 = .ok (.iconst 2, 1) := by decide +kernel
theorem dX12_ofJet_30 : decode cX12_ofJet 30 = .ok (.invokevirtual 27, 3) := by decide +kernel
theorem dX12_ofJet_33 : decode cX12_ofJet 33 = .ok (.ifCond .eq 7, 3) := by decide +kernel
theorem dX12_ofJet_36 : decode cX12_ofJet 36 = .ok (.iconst 0, 1) := by decide +kernel
theorem dX12_ofJet_37 : decode cX12_ofJet 37 = .ok (.goto 9, 3) := by decide +kernel
theorem dX12_ofJet_40 : decode cX12_ofJet 40 = .ok (.aload_n 0, 1) := by decide +kernel
theorem dX12_ofJet_41 : decode cX12_ofJet 41 = .ok (.iload_n 1, 1) := by decide +kernel
theorem dX12_ofJet_42 : decode cX12_ofJet 42 = .ok (.iload_n 2, 1) := by decide +kernel
theorem dX12_ofJet_43 : decode cX12_ofJet 43 = .ok (.invokevirtual 176, 3) := by decide +kernel
theorem dX12_ofJet_46 : decode cX12_ofJet 46 = .ok (.ireturn, 1) := by decide +kernel
theorem dX12_inAir_0 : decode cX12_inAir 0 = .ok (.iconst 0, 1) := by decide +kernel
theorem dX12_inAir_1 : decode cX12_inAir 1 = .ok (.istore_n 2, 1) := by decide +kernel
theorem dX12_inAir_2 : decode cX12_inAir 2 = .ok (.iconst 0, 1) := by decide +kernel
theorem dX12_inAir_3 : decode cX12_inAir 3 = .ok (.istore_n 3, 1) := by decide +kernel
theorem dX12_inAir_4 : decode cX12_inAir 4 = .ok (.iload_n 3, 1) := by decide +kernel
theorem dX12_inAir_5 : decode cX12_inAir 5 = .ok (.aload_n 0, 1) := by decide +kernel
theorem dX12_inAir_6 : decode cX12_inAir 6 = .ok (.getfield 10, 3) := by decide +kernel
theorem dX12_inAir_9 : decode cX12_inAir 9 = .ok (.getfield 179, 3) := by decide +kernel
theorem dX12_inAir_12 : decode cX12_inAir 12 = .ok (.invokevirtual 34, 3) := by decide +kernel
theorem dX12_inAir_15 : decode cX12_inAir 15 = .ok (.if_icmp .ge 57, 3) := by decide +kernel
theorem dX12_inAir_18 : decode cX12_inAir 18 = .ok (.iload_n 2, 1) := by decide +kernel
theorem dX12_inAir_19 : decode cX12_inAir 19 = .ok (.iload_n 1, 1) := by decide +kernel
theorem dX12_inAir_20 : decode cX12_inAir 20 = .ok (.iconst (-1), 1) := by decide +kernel
theorem dX12_inAir_21 : decode cX12_inAir 21 = .ok (.if_icmp .eq 23, 3) := by decide +kernel
theorem dX12_inAir_24 : decode cX12_inAir 24 = .ok (.aload_n 0, 1) := by decide +kernel
theorem dX12_inAir_25 : decode cX12_inAir 25 = .ok (.getfield 10, 3) := by decide +kernel
theorem dX12_inAir_28 : decode cX12_inAir 28 = .ok (.getfield 179, 3) := by decide +kernel
theorem dX12_inAir_31 : decode cX12_inAir 31 = .ok (.iload_n 3, 1) := by decide +kernel
theorem dX12_inAir_32 : decode cX12_inAir 32 = .ok (.invokevirtual 69, 3) := by decide +kernel
theorem dX12_inAir_35 : decode cX12_inAir 35 = .ok (.checkcast 119, 3) := by decide +kernel
theorem dX12_inAir_38 : decode cX12_inAir 38 = .ok (.iconst 0, 1) := by decide +kernel
theorem dX12_inAir_39 : decode cX12_inAir 39 = .ok (.iaload, 1) := by decide +kernel
theorem dX12_inAir_40 : decode cX12_inAir 40 = .ok (.iload_n 1, 1) := by decide +kernel
theorem dX12_inAir_41 : decode cX12_inAir 41 = .ok (.if_icmp .ne 22, 3) := by decide +kernel
theorem dX12_inAir_44 : decode cX12_inAir 44 = .ok (.aload_n 0, 1) := by decide +kernel
theorem dX12_inAir_45 : decode cX12_inAir 45 = .ok (.getfield 10, 3) := by decide +kernel
theorem dX12_inAir_48 : decode cX12_inAir 48 = .ok (.getfield 179, 3) := by decide +kernel
theorem dX12_inAir_51 : decode cX12_inAir 51 = .ok (.iload_n 3, 1) := by decide +kernel
theorem dX12_inAir_52 : decode cX12_inAir 52 = .ok (.invokevirtual 69, 3) := by decide +kernel
theorem dX12_inAir_55 : decode cX12_inAir 55 = .ok (.checkcast 119, 3) := by decide +kernel
theorem dX12_inAir_58 : decode cX12_inAir 58 = .ok (.iconst 2, 1) := by decide +kernel
theorem dX12_inAir_59 : decode cX12_inAir 59 = .ok (.iaload, 1) := by decide +kernel
theorem dX12_inAir_60 : decode cX12_inAir 60 = .ok (.goto 4, 3) := by decide +kernel
theorem dX12_inAir_63 : decode cX12_inAir 63 = .ok (.iconst 0, 1) := by decide +kernel
theorem dX12_inAir_64 : decode cX12_inAir 64 = .ok (.iadd, 1) := by decide +kernel
theorem dX12_inAir_65 : decode cX12_inAir 65 = .ok (.istore_n 2, 1) := by decide +kernel
theorem dX12_inAir_66 : decode cX12_inAir 66 = .ok (.iinc 3 1, 3) := by decide +kernel
theorem dX12_inAir_69 : decode cX12_inAir 69 = .ok (.goto (-65), 3) := by decide +kernel
theorem dX12_inAir_72 : decode cX12_inAir 72 = .ok (.iload_n 2, 1) := by decide +kernel
theorem dX12_inAir_73 : decode cX12_inAir 73 = .ok (.ireturn, 1) := by decide +kernel
theorem dX12_falls_0 : decode cX12_falls 0 = .ok (.aload_n 0, 1) := by decide +kernel
theorem dX12_falls_1 : decode cX12_falls 1 = .ok (.iload_n 1, 1) := by decide +kernel
theorem dX12_falls_2 : decode cX12_falls 2 = .ok (.iconst 1, 1) := by decide +kernel
theorem dX12_falls_3 : decode cX12_falls 3 = .ok (.bipush 8, 2) := by decide +kernel
theorem dX12_falls_5 : decode cX12_falls 5 = .ok (.invokestatic 38, 3) := by decide +kernel
theorem dX12_falls_8 : decode cX12_falls 8 = .ok (.ifCond .ne 7, 3) := by decide +kernel
theorem dX12_falls_11 : decode cX12_falls 11 = .ok (.iconst 1, 1) := by decide +kernel
theorem dX12_falls_12 : decode cX12_falls 12 = .ok (.goto 4, 3) := by decide +kernel
theorem dX12_falls_15 : decode cX12_falls 15 = .ok (.iconst 0, 1) := by decide +kernel
theorem dX12_falls_16 : decode cX12_falls 16 = .ok (.iconst 1, 1) := by decide +kernel
theorem dX12_falls_17 : decode cX12_falls 17 = .ok (.invokevirtual 45, 3) := by decide +kernel
theorem dX12_falls_20 : decode cX12_falls 20 = .ok (.ifCond .eq 7, 3) := by decide +kernel
theorem dX12_falls_23 : decode cX12_falls 23 = .ok (.iconst 0, 1) := by decide +kernel
theorem dX12_falls_24 : decode cX12_falls 24 = .ok (.goto 16, 3) := by decide +kernel
theorem dX12_falls_27 : decode cX12_falls 27 = .ok (.aload_n 0, 1) := by decide +kernel
theorem dX12_falls_28 : decode cX12_falls 28 = .ok (.aload_n 0, 1) := by decide +kernel
theorem dX12_falls_29 : decode cX12_falls 29 = .ok (.getfield 10, 3) := by decide +kernel
theorem dX12_falls_32 : decode cX12_falls 32 = .ok (.getfield 123, 3) := by decide +kernel
theorem dX12_falls_35 : decode cX12_falls 35 = .ok (.iload_n 1, 1) := by decide +kernel
theorem dX12_falls_36 : decode cX12_falls 36 = .ok (.iadd, 1) := by decide +kernel
theorem dX12_falls_37 : decode cX12_falls 37 = .ok (.invokevirtual 182, 3) := by decide +kernel
theorem dX12_falls_40 : decode cX12_falls 40 = .ok (.ireturn, 1) := by decide +kernel
theorem dX12_open_0 : decode cX12_open 0 = .ok (.aload_n 0, 1) := by decide +kernel
theorem dX12_open_1 : decode cX12_open 1 = .ok (.iload_n 1, 1) := by decide +kernel
theorem dX12_open_2 : decode cX12_open 2 = .ok (.iconst 0, 1) := by decide +kernel
theorem dX12_open_3 : decode cX12_open 3 = .ok (.aload_n 0, 1) := by decide +kernel
theorem dX12_open_4 : decode cX12_open 4 = .ok (.getfield 10, 3) := by decide +kernel
theorem dX12_open_7 : decode cX12_open 7 = .ok (.getfield 116, 3) := by decide +kernel
theorem dX12_open_10 : decode cX12_open 10 = .ok (.invokevirtual 34, 3) := by decide +kernel
theorem dX12_open_13 : decode cX12_open 13 = .ok (.iconst 1, 1) := by decide +kernel
theorem dX12_open_14 : decode cX12_open 14 = .ok (.isub, 1) := by decide +kernel
theorem dX12_open_15 : decode cX12_open 15 = .ok (.invokestatic 38, 3) := by decide +kernel
theorem dX12_open_18 : decode cX12_open 18 = .ok (.ifCond .ne 7, 3) := by decide +kernel
theorem dX12_open_21 : decode cX12_open 21 = .ok (.iconst 1, 1) := by decide +kernel
theorem dX12_open_22 : decode cX12_open 22 = .ok (.goto 4, 3) := by decide +kernel
theorem dX12_open_25 : decode cX12_open 25 = .ok (.iconst 0, 1) := by decide +kernel
theorem dX12_open_26 : decode cX12_open 26 = .ok (.iconst 1, 1) := by decide +kernel
theorem dX12_open_27 : decode cX12_open 27 = .ok (.invokevirtual 45, 3) := by decide +kernel
theorem dX12_open_30 : decode cX12_open 30 = .ok (.ifCond .eq 7, 3) := by decide +kernel
theorem dX12_open_33 : decode cX12_open 33 = .ok (.iconst 0, 1) := by decide +kernel
theorem dX12_open_34 : decode cX12_open 34 = .ok (.goto 8, 3) := by decide +kernel
theorem dX12_open_37 : decode cX12_open 37 = .ok (.aload_n 0, 1) := by decide +kernel
theorem dX12_open_38 : decode cX12_open 38 = .ok (.iload_n 1, 1) := by decide +kernel
theorem dX12_open_39 : decode cX12_open 39 = .ok (.invokevirtual 192, 3) := by decide +kernel
theorem dX12_open_42 : decode cX12_open 42 = .ok (.ireturn, 1) := by decide +kernel
theorem dX12_highest_0 : decode cX12_highest 0 = .ok (.iconst 0, 1) := by decide +kernel
theorem dX12_highest_1 : decode cX12_highest 1 = .ok (.istore_n 1, 1) := by decide +kernel
theorem dX12_highest_2 : decode cX12_highest 2 = .ok (.iconst 0, 1) := by decide +kernel
theorem dX12_highest_3 : decode cX12_highest 3 = .ok (.istore_n 2, 1) := by decide +kernel
theorem dX12_highest_4 : decode cX12_highest 4 = .ok (.iload_n 2, 1) := by decide +kernel
theorem dX12_highest_5 : decode cX12_highest 5 = .ok (.aload_n 0, 1) := by decide +kernel
theorem dX12_highest_6 : decode cX12_highest 6 = .ok (.getfield 10, 3) := by decide +kernel
theorem dX12_highest_9 : decode cX12_highest 9 = .ok (.getfield 42, 3) := by decide +kernel
theorem dX12_highest_12 : decode cX12_highest 12 = .ok (.invokevirtual 34, 3) := by decide +kernel
theorem dX12_highest_15 : decode cX12_highest 15 = .ok (.if_icmp .ge 22, 3) := by decide +kernel
theorem dX12_highest_18 : decode cX12_highest 18 = .ok (.iload_n 1, 1) := by decide +kernel
theorem dX12_highest_19 : decode cX12_highest 19 = .ok (.aload_n 0, 1) := by decide +kernel
theorem dX12_highest_20 : decode cX12_highest 20 = .ok (.getfield 10, 3) := by decide +kernel
theorem dX12_highest_23 : decode cX12_highest 23 = .ok (.iload_n 2, 1) := by decide +kernel
theorem dX12_highest_24 : decode cX12_highest 24 = .ok (.invokevirtual 167, 3) := by decide +kernel
theorem dX12_highest_27 : decode cX12_highest 27 = .ok (.invokestatic 195, 3) := by decide +kernel
theorem dX12_highest_30 : decode cX12_highest 30 = .ok (.istore_n 1, 1) := by decide +kernel
theorem dX12_highest_31 : decode cX12_highest 31 = .ok (.iinc 2 1, 3) := by decide +kernel
theorem dX12_highest_34 : decode cX12_highest 34 = .ok (.goto (-30), 3) := by decide +kernel
theorem dX12_highest_37 : decode cX12_highest 37 = .ok (.iload_n 1, 1) := by decide +kernel
theorem dX12_highest_38 : decode cX12_highest 38 = .ok (.ireturn, 1) := by decide +kernel
theorem dX12_lampsOn_0 : decode cX12_lampsOn 0 = .ok (.iconst 0, 1) := by decide +kernel
theorem dX12_lampsOn_1 : decode cX12_lampsOn 1 = .ok (.istore_n 1, 1) := by decide +kernel
theorem dX12_lampsOn_2 : decode cX12_lampsOn 2 = .ok (.iconst 0, 1) := by decide +kernel
theorem dX12_lampsOn_3 : decode cX12_lampsOn 3 = .ok (.istore_n 2, 1) := by decide +kernel
theorem dX12_lampsOn_4 : decode cX12_lampsOn 4 = .ok (.iload_n 2, 1) := by decide +kernel
theorem dX12_lampsOn_5 : decode cX12_lampsOn 5 = .ok (.aload_n 0, 1) := by decide +kernel
theorem dX12_lampsOn_6 : decode cX12_lampsOn 6 = .ok (.getfield 10, 3) := by decide +kernel
theorem dX12_lampsOn_9 : decode cX12_lampsOn 9 = .ok (.getfield 42, 3) := by decide +kernel
theorem dX12_lampsOn_12 : decode cX12_lampsOn 12 = .ok (.invokevirtual 34, 3) := by decide +kernel
theorem dX12_lampsOn_15 : decode cX12_lampsOn 15 = .ok (.if_icmp .ge 39, 3) := by decide +kernel
theorem dX12_lampsOn_18 : decode cX12_lampsOn 18 = .ok (.iload_n 1, 1) := by decide +kernel
theorem dX12_lampsOn_19 : decode cX12_lampsOn 19 = .ok (.aload_n 0, 1) := by decide +kernel
theorem dX12_lampsOn_20 : decode cX12_lampsOn 20 = .ok (.getfield 10, 3) := by decide +kernel
theorem dX12_lampsOn_23 : decode cX12_lampsOn 23 = .ok (.getfield 42, 3) := by decide +kernel
theorem dX12_lampsOn_26 : decode cX12_lampsOn 26 = .ok (.iload_n 2, 1) := by decide +kernel
theorem dX12_lampsOn_27 : decode cX12_lampsOn 27 = .ok (.invokevirtual 69, 3) := by decide +kernel
theorem dX12_lampsOn_30 : decode cX12_lampsOn 30 = .ok (.checkcast 61, 3) := by decide +kernel
theorem dX12_lampsOn_33 : decode cX12_lampsOn 33 = .ok (.getfield 101, 3) := by decide +kernel
theorem dX12_lampsOn_36 : decode cX12_lampsOn 36 = .ok (.ifCond .eq 9, 3) := by decide +kernel
theorem dX12_lampsOn_39 : decode cX12_lampsOn 39 = .ok (.iconst 1, 1) := by decide +kernel
theorem dX12_lampsOn_40 : decode cX12_lampsOn 40 = .ok (.iload_n 2, 1) := by decide +kernel
theorem dX12_lampsOn_41 : decode cX12_lampsOn 41 = .ok (.ishl, 1) := by decide +kernel
theorem dX12_lampsOn_42 : decode cX12_lampsOn 42 = .ok (.goto 4, 3) := by decide +kernel
theorem dX12_lampsOn_45 : decode cX12_lampsOn 45 = .ok (.iconst 0, 1) := by decide +kernel
theorem dX12_lampsOn_46 : decode cX12_lampsOn 46 = .ok (.ior, 1) := by decide +kernel
theorem dX12_lampsOn_47 : decode cX12_lampsOn 47 = .ok (.istore_n 1, 1) := by decide +kernel
theorem dX12_lampsOn_48 : decode cX12_lampsOn 48 = .ok (.iinc 2 1, 3) := by decide +kernel
theorem dX12_lampsOn_51 : decode cX12_lampsOn 51 = .ok (.goto (-47), 3) := by decide +kernel
theorem dX12_lampsOn_54 : decode cX12_lampsOn 54 = .ok (.iload_n 1, 1) := by decide +kernel
theorem dX12_lampsOn_55 : decode cX12_lampsOn 55 = .ok (.ireturn, 1) := by decide +kernel
theorem dX12_manyNow_0 : decode cX12_manyNow 0 = .ok (.bipush 16, 2) := by decide +kernel
theorem dX12_manyNow_2 : decode cX12_manyNow 2 = .ok (.newarray .int, 2) := by decide +kernel
theorem dX12_manyNow_4 : decode cX12_manyNow 4 = .ok (.dup, 1) := by decide +kernel
theorem dX12_manyNow_5 : decode cX12_manyNow 5 = .ok (.iconst 0, 1) := by decide +kernel
theorem dX12_manyNow_6 : decode cX12_manyNow 6 = .ok (.aload_n 0, 1) := by decide +kernel
theorem dX12_manyNow_7 : decode cX12_manyNow 7 = .ok (.getfield 10, 3) := by decide +kernel
theorem dX12_manyNow_10 : decode cX12_manyNow 10 = .ok (.getfield 123, 3) := by decide +kernel
theorem dX12_manyNow_13 : decode cX12_manyNow 13 = .ok (.iastore, 1) := by decide +kernel
theorem dX12_manyNow_14 : decode cX12_manyNow 14 = .ok (.dup, 1) := by decide +kernel
theorem dX12_manyNow_15 : decode cX12_manyNow 15 = .ok (.iconst 1, 1) := by decide +kernel
theorem dX12_manyNow_16 : decode cX12_manyNow 16 = .ok (.aload_n 0, 1) := by decide +kernel
theorem dX12_manyNow_17 : decode cX12_manyNow 17 = .ok (.getfield 10, 3) := by decide +kernel
theorem dX12_manyNow_20 : decode cX12_manyNow 20 = .ok (.getfield 31, 3) := by decide +kernel
theorem dX12_manyNow_23 : decode cX12_manyNow 23 = .ok (.invokevirtual 34, 3) := by decide +kernel
theorem dX12_manyNow_26 : decode cX12_manyNow 26 = .ok (.iastore, 1) := by decide +kernel
theorem dX12_manyNow_27 : decode cX12_manyNow 27 = .ok (.dup, 1) := by decide +kernel
theorem dX12_manyNow_28 : decode cX12_manyNow 28 = .ok (.iconst 2, 1) := by decide +kernel
theorem dX12_manyNow_29 : decode cX12_manyNow 29 = .ok (.aload_n 0, 1) := by decide +kernel
theorem dX12_manyNow_30 : decode cX12_manyNow 30 = .ok (.getfield 10, 3) := by decide +kernel
theorem dX12_manyNow_33 : decode cX12_manyNow 33 = .ok (.getfield 42, 3) := by decide +kernel
theorem dX12_manyNow_36 : decode cX12_manyNow 36 = .ok (.invokevirtual 34, 3) := by decide +kernel
theorem dX12_manyNow_39 : decode cX12_manyNow 39 = .ok (.iastore, 1) := by decide +kernel
theorem dX12_manyNow_40 : decode cX12_manyNow 40 = .ok (.dup, 1) := by decide +kernel
theorem dX12_manyNow_41 : decode cX12_manyNow 41 = .ok (.iconst 3, 1) := by decide +kernel
theorem dX12_manyNow_42 : decode cX12_manyNow 42 = .ok (.aload_n 0, 1) := by decide +kernel
theorem dX12_manyNow_43 : decode cX12_manyNow 43 = .ok (.getfield 19, 3) := by decide +kernel
theorem dX12_manyNow_46 : decode cX12_manyNow 46 = .ok (.invokevirtual 34, 3) := by decide +kernel
theorem dX12_manyNow_49 : decode cX12_manyNow 49 = .ok (.iastore, 1) := by decide +kernel
theorem dX12_manyNow_50 : decode cX12_manyNow 50 = .ok (.dup, 1) := by decide +kernel
theorem dX12_manyNow_51 : decode cX12_manyNow 51 = .ok (.iconst 4, 1) := by decide +kernel
theorem dX12_manyNow_52 : decode cX12_manyNow 52 = .ok (.aload_n 0, 1) := by decide +kernel
theorem dX12_manyNow_53 : decode cX12_manyNow 53 = .ok (.getfield 10, 3) := by decide +kernel
theorem dX12_manyNow_56 : decode cX12_manyNow 56 = .ok (.getfield 116, 3) := by decide +kernel
theorem dX12_manyNow_59 : decode cX12_manyNow 59 = .ok (.invokevirtual 34, 3) := by decide +kernel
theorem dX12_manyNow_62 : decode cX12_manyNow 62 = .ok (.iastore, 1) := by decide +kernel
theorem dX12_manyNow_63 : decode cX12_manyNow 63 = .ok (.dup, 1) := by decide +kernel
theorem dX12_manyNow_64 : decode cX12_manyNow 64 = .ok (.iconst 5, 1) := by decide +kernel
theorem dX12_manyNow_65 : decode cX12_manyNow 65 = .ok (.aload_n 0, 1) := by decide +kernel
theorem dX12_manyNow_66 : decode cX12_manyNow 66 = .ok (.getfield 10, 3) := by decide +kernel
theorem dX12_manyNow_69 : decode cX12_manyNow 69 = .ok (.getfield 95, 3) := by decide +kernel
theorem dX12_manyNow_72 : decode cX12_manyNow 72 = .ok (.iastore, 1) := by decide +kernel
theorem dX12_manyNow_73 : decode cX12_manyNow 73 = .ok (.dup, 1) := by decide +kernel
theorem dX12_manyNow_74 : decode cX12_manyNow 74 = .ok (.bipush 6, 2) := by decide +kernel
theorem dX12_manyNow_76 : decode cX12_manyNow 76 = .ok (.aload_n 0, 1) := by decide +kernel
theorem dX12_manyNow_77 : decode cX12_manyNow 77 = .ok (.iconst (-1), 1) := by decide +kernel
theorem dX12_manyNow_78 : decode cX12_manyNow 78 = .ok (.invokevirtual 182, 3) := by decide +kernel
theorem dX12_manyNow_81 : decode cX12_manyNow 81 = .ok (.iastore, 1) := by decide +kernel
theorem dX12_manyNow_82 : decode cX12_manyNow 82 = .ok (.dup, 1) := by decide +kernel
theorem dX12_manyNow_83 : decode cX12_manyNow 83 = .ok (.bipush 7, 2) := by decide +kernel
theorem dX12_manyNow_85 : decode cX12_manyNow 85 = .ok (.aload_n 0, 1) := by decide +kernel
theorem dX12_manyNow_86 : decode cX12_manyNow 86 = .ok (.getfield 10, 3) := by decide +kernel
theorem dX12_manyNow_89 : decode cX12_manyNow 89 = .ok (.getfield 200, 3) := by decide +kernel
theorem dX12_manyNow_92 : decode cX12_manyNow 92 = .ok (.iastore, 1) := by decide +kernel
theorem dX12_manyNow_93 : decode cX12_manyNow 93 = .ok (.dup, 1) := by decide +kernel
theorem dX12_manyNow_94 : decode cX12_manyNow 94 = .ok (.bipush 8, 2) := by decide +kernel
theorem dX12_manyNow_96 : decode cX12_manyNow 96 = .ok (.aload_n 0, 1) := by decide +kernel
theorem dX12_manyNow_97 : decode cX12_manyNow 97 = .ok (.getfield 10, 3) := by decide +kernel
theorem dX12_manyNow_100 : decode cX12_manyNow 100 = .ok (.getfield 203, 3) := by decide +kernel
theorem dX12_manyNow_103 : decode cX12_manyNow 103 = .ok (.iastore, 1) := by decide +kernel
theorem dX12_manyNow_104 : decode cX12_manyNow 104 = .ok (.dup, 1) := by decide +kernel
theorem dX12_manyNow_105 : decode cX12_manyNow 105 = .ok (.bipush 9, 2) := by decide +kernel
theorem dX12_manyNow_107 : decode cX12_manyNow 107 = .ok (.aload_n 0, 1) := by decide +kernel
theorem dX12_manyNow_108 : decode cX12_manyNow 108 = .ok (.getfield 10, 3) := by decide +kernel
theorem dX12_manyNow_111 : decode cX12_manyNow 111 = .ok (.getfield 206, 3) := by decide +kernel
theorem dX12_manyNow_114 : decode cX12_manyNow 114 = .ok (.iastore, 1) := by decide +kernel
theorem dX12_manyNow_115 : decode cX12_manyNow 115 = .ok (.dup, 1) := by decide +kernel
theorem dX12_manyNow_116 : decode cX12_manyNow 116 = .ok (.bipush 10, 2) := by decide +kernel
theorem dX12_manyNow_118 : decode cX12_manyNow 118 = .ok (.aload_n 0, 1) := by decide +kernel
theorem dX12_manyNow_119 : decode cX12_manyNow 119 = .ok (.getfield 10, 3) := by decide +kernel
theorem dX12_manyNow_122 : decode cX12_manyNow 122 = .ok (.getfield 209, 3) := by decide +kernel
theorem dX12_manyNow_125 : decode cX12_manyNow 125 = .ok (.iastore, 1) := by decide +kernel
theorem dX12_manyNow_126 : decode cX12_manyNow 126 = .ok (.dup, 1) := by decide +kernel
theorem dX12_manyNow_127 : decode cX12_manyNow 127 = .ok (.bipush 11, 2) := by decide +kernel
theorem dX12_manyNow_129 : decode cX12_manyNow 129 = .ok (.aload_n 0, 1) := by decide +kernel
theorem dX12_manyNow_130 : decode cX12_manyNow 130 = .ok (.getfield 10, 3) := by decide +kernel
theorem dX12_manyNow_133 : decode cX12_manyNow 133 = .ok (.getfield 212, 3) := by decide +kernel
theorem dX12_manyNow_136 : decode cX12_manyNow 136 = .ok (.iastore, 1) := by decide +kernel
theorem dX12_manyNow_137 : decode cX12_manyNow 137 = .ok (.dup, 1) := by decide +kernel
theorem dX12_manyNow_138 : decode cX12_manyNow 138 = .ok (.bipush 12, 2) := by decide +kernel
theorem dX12_manyNow_140 : decode cX12_manyNow 140 = .ok (.aload_n 0, 1) := by decide +kernel
theorem dX12_manyNow_141 : decode cX12_manyNow 141 = .ok (.getfield 10, 3) := by decide +kernel
theorem dX12_manyNow_144 : decode cX12_manyNow 144 = .ok (.getfield 215, 3) := by decide +kernel
theorem dX12_manyNow_147 : decode cX12_manyNow 147 = .ok (.iastore, 1) := by decide +kernel
theorem dX12_manyNow_148 : decode cX12_manyNow 148 = .ok (.dup, 1) := by decide +kernel
theorem dX12_manyNow_149 : decode cX12_manyNow 149 = .ok (.bipush 13, 2) := by decide +kernel
theorem dX12_manyNow_151 : decode cX12_manyNow 151 = .ok (.aload_n 0, 1) := by decide +kernel
theorem dX12_manyNow_152 : decode cX12_manyNow 152 = .ok (.invokevirtual 218, 3) := by decide +kernel
theorem dX12_manyNow_155 : decode cX12_manyNow 155 = .ok (.iastore, 1) := by decide +kernel
theorem dX12_manyNow_156 : decode cX12_manyNow 156 = .ok (.dup, 1) := by decide +kernel
theorem dX12_manyNow_157 : decode cX12_manyNow 157 = .ok (.bipush 14, 2) := by decide +kernel
theorem dX12_manyNow_159 : decode cX12_manyNow 159 = .ok (.aload_n 0, 1) := by decide +kernel
theorem dX12_manyNow_160 : decode cX12_manyNow 160 = .ok (.invokevirtual 221, 3) := by decide +kernel
theorem dX12_manyNow_163 : decode cX12_manyNow 163 = .ok (.iastore, 1) := by decide +kernel
theorem dX12_manyNow_164 : decode cX12_manyNow 164 = .ok (.dup, 1) := by decide +kernel
theorem dX12_manyNow_165 : decode cX12_manyNow 165 = .ok (.bipush 15, 2) := by decide +kernel
theorem dX12_manyNow_167 : decode cX12_manyNow 167 = .ok (.aload_n 0, 1) := by decide +kernel
theorem dX12_manyNow_168 : decode cX12_manyNow 168 = .ok (.getfield 10, 3) := by decide +kernel
theorem dX12_manyNow_171 : decode cX12_manyNow 171 = .ok (.getfield 82, 3) := by decide +kernel
theorem dX12_manyNow_174 : decode cX12_manyNow 174 = .ok (.ifCond .eq 7, 3) := by decide +kernel
theorem dX12_manyNow_177 : decode cX12_manyNow 177 = .ok (.iconst 1, 1) := by decide +kernel
theorem dX12_manyNow_178 : decode cX12_manyNow 178 = .ok (.goto 4, 3) := by decide +kernel
theorem dX12_manyNow_181 : decode cX12_manyNow 181 = .ok (.iconst 0, 1) := by decide +kernel
theorem dX12_manyNow_182 : decode cX12_manyNow 182 = .ok (.iastore, 1) := by decide +kernel
theorem dX12_manyNow_183 : decode cX12_manyNow 183 = .ok (.astore_n 2, 1) := by decide +kernel
theorem dX12_manyNow_184 : decode cX12_manyNow 184 = .ok (.aload_n 2, 1) := by decide +kernel
theorem dX12_manyNow_185 : decode cX12_manyNow 185 = .ok (.iload_n 1, 1) := by decide +kernel
theorem dX12_manyNow_186 : decode cX12_manyNow 186 = .ok (.iaload, 1) := by decide +kernel
theorem dX12_manyNow_187 : decode cX12_manyNow 187 = .ok (.ireturn, 1) := by decide +kernel
theorem dX12_many_0 : decode cX12_many 0 = .ok (.aload_n 0, 1) := by decide +kernel
theorem dX12_many_1 : decode cX12_many 1 = .ok (.iload_n 1, 1) := by decide +kernel
theorem dX12_many_2 : decode cX12_many 2 = .ok (.iconst 0, 1) := by decide +kernel
theorem dX12_many_3 : decode cX12_many 3 = .ok (.bipush 15, 2) := by decide +kernel
theorem dX12_many_5 : decode cX12_many 5 = .ok (.invokestatic 38, 3) := by decide +kernel
theorem dX12_many_8 : decode cX12_many 8 = .ok (.ifCond .ne 7, 3) := by decide +kernel
theorem dX12_many_11 : decode cX12_many 11 = .ok (.iconst 1, 1) := by decide +kernel
theorem dX12_many_12 : decode cX12_many 12 = .ok (.goto 4, 3) := by decide +kernel
theorem dX12_many_15 : decode cX12_many 15 = .ok (.iconst 0, 1) := by decide +kernel
theorem dX12_many_16 : decode cX12_many 16 = .ok (.iconst 1, 1) := by decide +kernel
theorem dX12_many_17 : decode cX12_many 17 = .ok (.invokevirtual 45, 3) := by decide +kernel
theorem dX12_many_20 : decode cX12_many 20 = .ok (.ifCond .eq 7, 3) := by decide +kernel
theorem dX12_many_23 : decode cX12_many 23 = .ok (.iconst 0, 1) := by decide +kernel
theorem dX12_many_24 : decode cX12_many 24 = .ok (.goto 8, 3) := by decide +kernel
theorem dX12_many_27 : decode cX12_many 27 = .ok (.aload_n 0, 1) := by decide +kernel
theorem dX12_many_28 : decode cX12_many 28 = .ok (.iload_n 1, 1) := by decide +kernel
theorem dX12_many_29 : decode cX12_many 29 = .ok (.invokevirtual 224, 3) := by decide +kernel
theorem dX12_many_32 : decode cX12_many 32 = .ok (.ireturn, 1) := by decide +kernel
theorem dX12_meanHeight_0 : decode cX12_meanHeight 0 = .ok (.aload_n 0, 1) := by decide +kernel
theorem dX12_meanHeight_1 : decode cX12_meanHeight 1 = .ok (.iconst 0, 1) := by decide +kernel
theorem dX12_meanHeight_2 : decode cX12_meanHeight 2 = .ok (.putfield 23, 3) := by decide +kernel
theorem dX12_meanHeight_5 : decode cX12_meanHeight 5 = .ok (.iconst 0, 1) := by decide +kernel
theorem dX12_meanHeight_6 : decode cX12_meanHeight 6 = .ok (.istore_n 1, 1) := by decide +kernel
theorem dX12_meanHeight_7 : decode cX12_meanHeight 7 = .ok (.iconst 0, 1) := by decide +kernel
theorem dX12_meanHeight_8 : decode cX12_meanHeight 8 = .ok (.istore_n 2, 1) := by decide +kernel
theorem dX12_meanHeight_9 : decode cX12_meanHeight 9 = .ok (.iload_n 2, 1) := by decide +kernel
theorem dX12_meanHeight_10 : decode cX12_meanHeight 10 = .ok (.aload_n 0, 1) := by decide +kernel
theorem dX12_meanHeight_11 : decode cX12_meanHeight 11 = .ok (.getfield 10, 3) := by decide +kernel
theorem dX12_meanHeight_14 : decode cX12_meanHeight 14 = .ok (.getfield 42, 3) := by decide +kernel
theorem dX12_meanHeight_17 : decode cX12_meanHeight 17 = .ok (.invokevirtual 34, 3) := by decide +kernel
theorem dX12_meanHeight_20 : decode cX12_meanHeight 20 = .ok (.if_icmp .ge 20, 3) := by decide +kernel
theorem dX12_meanHeight_23 : decode cX12_meanHeight 23 = .ok (.iload_n 1, 1) := by decide +kernel
theorem dX12_meanHeight_24 : decode cX12_meanHeight 24 = .ok (.aload_n 0, 1) := by decide +kernel
theorem dX12_meanHeight_25 : decode cX12_meanHeight 25 = .ok (.getfield 10, 3) := by decide +kernel
theorem dX12_meanHeight_28 : decode cX12_meanHeight 28 = .ok (.iload_n 2, 1) := by decide +kernel
theorem dX12_meanHeight_29 : decode cX12_meanHeight 29 = .ok (.invokevirtual 167, 3) := by decide +kernel
theorem dX12_meanHeight_32 : decode cX12_meanHeight 32 = .ok (.iadd, 1) := by decide +kernel
theorem dX12_meanHeight_33 : decode cX12_meanHeight 33 = .ok (.istore_n 1, 1) := by decide +kernel
theorem dX12_meanHeight_34 : decode cX12_meanHeight 34 = .ok (.iinc 2 1, 3) := by decide +kernel
theorem dX12_meanHeight_37 : decode cX12_meanHeight 37 = .ok (.goto (-28), 3) := by decide +kernel
theorem dX12_meanHeight_40 : decode cX12_meanHeight 40 = .ok (.aload_n 0, 1) := by decide +kernel
theorem dX12_meanHeight_41 : decode cX12_meanHeight 41 = .ok (.getfield 10, 3) := by decide +kernel
theorem dX12_meanHeight_44 : decode cX12_meanHeight 44 = .ok (.getfield 42, 3) := by decide +kernel
theorem dX12_meanHeight_47 : decode cX12_meanHeight 47 = .ok (.invokevirtual 227, 3) := by decide +kernel
theorem dX12_meanHeight_50 : decode cX12_meanHeight 50 = .ok (.ifCond .eq 7, 3) := by decide +kernel
theorem dX12_meanHeight_53 : decode cX12_meanHeight 53 = .ok (.dconst 0, 1) := by decide +kernel
theorem dX12_meanHeight_54 : decode cX12_meanHeight 54 = .ok (.goto 17, 3) := by decide +kernel
theorem dX12_meanHeight_57 : decode cX12_meanHeight 57 = .ok (.iload_n 1, 1) := by decide +kernel
theorem dX12_meanHeight_58 : decode cX12_meanHeight 58 = .ok (.i2d, 1) := by decide +kernel
theorem dX12_meanHeight_59 : decode cX12_meanHeight 59 = .ok (.aload_n 0, 1) := by decide +kernel
theorem dX12_meanHeight_60 : decode cX12_meanHeight 60 = .ok (.getfield 10, 3) := by decide +kernel
theorem dX12_meanHeight_63 : decode cX12_meanHeight 63 = .ok (.getfield 42, 3) := by decide +kernel
theorem dX12_meanHeight_66 : decode cX12_meanHeight 66 = .ok (.invokevirtual 34, 3) := by decide +kernel
theorem dX12_meanHeight_69 : decode cX12_meanHeight 69 = .ok (.i2d, 1) := by decide +kernel
theorem dX12_meanHeight_70 : decode cX12_meanHeight 70 = .ok (.ddiv, 1) := by decide +kernel
theorem dX12_meanHeight_71 : decode cX12_meanHeight 71 = .ok (.dreturn, 1) := by decide +kernel
theorem dX12_heightIn_0 : decode cX12_heightIn 0 = .ok (.aload_n 0, 1) := by decide +kernel
theorem dX12_heightIn_1 : decode cX12_heightIn 1 = .ok (.aload_n 0, 1) := by decide +kernel
theorem dX12_heightIn_2 : decode cX12_heightIn 2 = .ok (.iload_n 1, 1) := by decide +kernel
theorem dX12_heightIn_3 : decode cX12_heightIn 3 = .ok (.invokevirtual 79, 3) := by decide +kernel
theorem dX12_heightIn_6 : decode cX12_heightIn 6 = .ok (.iconst 1, 1) := by decide +kernel
theorem dX12_heightIn_7 : decode cX12_heightIn 7 = .ok (.invokevirtual 45, 3) := by decide +kernel
theorem dX12_heightIn_10 : decode cX12_heightIn 10 = .ok (.ifCond .ne 26, 3) := by decide +kernel
theorem dX12_heightIn_13 : decode cX12_heightIn 13 = .ok (.aload_n 0, 1) := by decide +kernel
theorem dX12_heightIn_14 : decode cX12_heightIn 14 = .ok (.iload_n 2, 1) := by decide +kernel
theorem dX12_heightIn_15 : decode cX12_heightIn 15 = .ok (.iconst 1, 1) := by decide +kernel
theorem dX12_heightIn_16 : decode cX12_heightIn 16 = .ok (.bipush 40, 2) := by decide +kernel
theorem dX12_heightIn_18 : decode cX12_heightIn 18 = .ok (.invokestatic 38, 3) := by decide +kernel
theorem dX12_heightIn_21 : decode cX12_heightIn 21 = .ok (.ifCond .ne 7, 3) := by decide +kernel
theorem dX12_heightIn_24 : decode cX12_heightIn 24 = .ok (.iconst 1, 1) := by decide +kernel
theorem dX12_heightIn_25 : decode cX12_heightIn 25 = .ok (.goto 4, 3) := by decide +kernel
theorem dX12_heightIn_28 : decode cX12_heightIn 28 = .ok (.iconst 0, 1) := by decide +kernel
theorem dX12_heightIn_29 : decode cX12_heightIn 29 = .ok (.iconst 2, 1) := by decide +kernel
theorem dX12_heightIn_30 : decode cX12_heightIn 30 = .ok (.invokevirtual 27, 3) := by decide +kernel
theorem dX12_heightIn_33 : decode cX12_heightIn 33 = .ok (.ifCond .eq 7, 3) := by decide +kernel
theorem dX12_heightIn_36 : decode cX12_heightIn 36 = .ok (.iconst 0, 1) := by decide +kernel
theorem dX12_heightIn_37 : decode cX12_heightIn 37 = .ok (.goto 9, 3) := by decide +kernel
theorem dX12_heightIn_40 : decode cX12_heightIn 40 = .ok (.aload_n 0, 1) := by decide +kernel
theorem dX12_heightIn_41 : decode cX12_heightIn 41 = .ok (.iload_n 1, 1) := by decide +kernel
theorem dX12_heightIn_42 : decode cX12_heightIn 42 = .ok (.iload_n 2, 1) := by decide +kernel
theorem dX12_heightIn_43 : decode cX12_heightIn 43 = .ok (.invokevirtual 235, 3) := by decide +kernel
theorem dX12_heightIn_46 : decode cX12_heightIn 46 = .ok (.ireturn, 1) := by decide +kernel
theorem dX12_settingFor_0 : decode cX12_settingFor 0 = .ok (.aload_n 0, 1) := by decide +kernel
theorem dX12_settingFor_1 : decode cX12_settingFor 1 = .ok (.aload_n 0, 1) := by decide +kernel
theorem dX12_settingFor_2 : decode cX12_settingFor 2 = .ok (.iload_n 1, 1) := by decide +kernel
theorem dX12_settingFor_3 : decode cX12_settingFor 3 = .ok (.invokevirtual 79, 3) := by decide +kernel
theorem dX12_settingFor_6 : decode cX12_settingFor 6 = .ok (.iconst 1, 1) := by decide +kernel
theorem dX12_settingFor_7 : decode cX12_settingFor 7 = .ok (.invokevirtual 45, 3) := by decide +kernel
theorem dX12_settingFor_10 : decode cX12_settingFor 10 = .ok (.ifCond .ne 26, 3) := by decide +kernel
theorem dX12_settingFor_13 : decode cX12_settingFor 13 = .ok (.aload_n 0, 1) := by decide +kernel
theorem dX12_settingFor_14 : decode cX12_settingFor 14 = .ok (.iload_n 2, 1) := by decide +kernel
theorem dX12_settingFor_15 : decode cX12_settingFor 15 = .ok (.iconst 1, 1) := by decide +kernel
theorem dX12_settingFor_16 : decode cX12_settingFor 16 = .ok (.bipush 60, 2) := by decide +kernel
theorem dX12_settingFor_18 : decode cX12_settingFor 18 = .ok (.invokestatic 38, 3) := by decide +kernel
theorem dX12_settingFor_21 : decode cX12_settingFor 21 = .ok (.ifCond .ne 7, 3) := by decide +kernel
theorem dX12_settingFor_24 : decode cX12_settingFor 24 = .ok (.iconst 1, 1) := by decide +kernel
theorem dX12_settingFor_25 : decode cX12_settingFor 25 = .ok (.goto 4, 3) := by decide +kernel
theorem dX12_settingFor_28 : decode cX12_settingFor 28 = .ok (.iconst 0, 1) := by decide +kernel
theorem dX12_settingFor_29 : decode cX12_settingFor 29 = .ok (.iconst 2, 1) := by decide +kernel
theorem dX12_settingFor_30 : decode cX12_settingFor 30 = .ok (.invokevirtual 27, 3) := by decide +kernel
theorem dX12_settingFor_33 : decode cX12_settingFor 33 = .ok (.ifCond .eq 7, 3) := by decide +kernel
theorem dX12_settingFor_36 : decode cX12_settingFor 36 = .ok (.iconst 0, 1) := by decide +kernel
theorem dX12_settingFor_37 : decode cX12_settingFor 37 = .ok (.goto 9, 3) := by decide +kernel
theorem dX12_settingFor_40 : decode cX12_settingFor 40 = .ok (.aload_n 0, 1) := by decide +kernel
theorem dX12_settingFor_41 : decode cX12_settingFor 41 = .ok (.iload_n 1, 1) := by decide +kernel
theorem dX12_settingFor_42 : decode cX12_settingFor 42 = .ok (.iload_n 2, 1) := by decide +kernel
theorem dX12_settingFor_43 : decode cX12_settingFor 43 = .ok (.invokevirtual 238, 3) := by decide +kernel
theorem dX12_settingFor_46 : decode cX12_settingFor 46 = .ok (.ireturn, 1) := by decide +kernel
theorem dX12_leadFor_0 : decode cX12_leadFor 0 = .ok (.aload_n 0, 1) := by decide +kernel
theorem dX12_leadFor_1 : decode cX12_leadFor 1 = .ok (.aload_n 0, 1) := by decide +kernel
theorem dX12_leadFor_2 : decode cX12_leadFor 2 = .ok (.iload_n 1, 1) := by decide +kernel
theorem dX12_leadFor_3 : decode cX12_leadFor 3 = .ok (.invokevirtual 79, 3) := by decide +kernel
theorem dX12_leadFor_6 : decode cX12_leadFor 6 = .ok (.iconst 1, 1) := by decide +kernel
theorem dX12_leadFor_7 : decode cX12_leadFor 7 = .ok (.invokevirtual 45, 3) := by decide +kernel
theorem dX12_leadFor_10 : decode cX12_leadFor 10 = .ok (.ifCond .ne 26, 3) := by decide +kernel
theorem dX12_leadFor_13 : decode cX12_leadFor 13 = .ok (.aload_n 0, 1) := by decide +kernel
theorem dX12_leadFor_14 : decode cX12_leadFor 14 = .ok (.iload_n 2, 1) := by decide +kernel
theorem dX12_leadFor_15 : decode cX12_leadFor 15 = .ok (.iconst 1, 1) := by decide +kernel
theorem dX12_leadFor_16 : decode cX12_leadFor 16 = .ok (.bipush 60, 2) := by decide +kernel
theorem dX12_leadFor_18 : decode cX12_leadFor 18 = .ok (.invokestatic 38, 3) := by decide +kernel
theorem dX12_leadFor_21 : decode cX12_leadFor 21 = .ok (.ifCond .ne 7, 3) := by decide +kernel
theorem dX12_leadFor_24 : decode cX12_leadFor 24 = .ok (.iconst 1, 1) := by decide +kernel
theorem dX12_leadFor_25 : decode cX12_leadFor 25 = .ok (.goto 4, 3) := by decide +kernel
theorem dX12_leadFor_28 : decode cX12_leadFor 28 = .ok (.iconst 0, 1) := by decide +kernel
theorem dX12_leadFor_29 : decode cX12_leadFor 29 = .ok (.iconst 2, 1) := by decide +kernel
theorem dX12_leadFor_30 : decode cX12_leadFor 30 = .ok (.invokevirtual 27, 3) := by decide +kernel
theorem dX12_leadFor_33 : decode cX12_leadFor 33 = .ok (.ifCond .eq 7, 3) := by decide +kernel
theorem dX12_leadFor_36 : decode cX12_leadFor 36 = .ok (.iconst 0, 1) := by decide +kernel
theorem dX12_leadFor_37 : decode cX12_leadFor 37 = .ok (.goto 9, 3) := by decide +kernel
theorem dX12_leadFor_40 : decode cX12_leadFor 40 = .ok (.aload_n 0, 1) := by decide +kernel
theorem dX12_leadFor_41 : decode cX12_leadFor 41 = .ok (.iload_n 1, 1) := by decide +kernel
theorem dX12_leadFor_42 : decode cX12_leadFor 42 = .ok (.iload_n 2, 1) := by decide +kernel
theorem dX12_leadFor_43 : decode cX12_leadFor 43 = .ok (.invokevirtual 241, 3) := by decide +kernel
theorem dX12_leadFor_46 : decode cX12_leadFor 46 = .ok (.ireturn, 1) := by decide +kernel
theorem dX12_wouldNow_0 : decode cX12_wouldNow 0 = .ok (.aload_n 0, 1) := by decide +kernel
theorem dX12_wouldNow_1 : decode cX12_wouldNow 1 = .ok (.getfield 10, 3) := by decide +kernel
theorem dX12_wouldNow_4 : decode cX12_wouldNow 4 = .ok (.invokevirtual 231, 3) := by decide +kernel
theorem dX12_wouldNow_7 : decode cX12_wouldNow 7 = .ok (.astore_n 3, 1) := by decide +kernel
theorem dX12_wouldNow_8 : decode cX12_wouldNow 8 = .ok (.sipush 9000, 3) := by decide +kernel
theorem dX12_wouldNow_11 : decode cX12_wouldNow 11 = .ok (.istore 4, 2) := by decide +kernel
theorem dX12_wouldNow_13 : decode cX12_wouldNow 13 = .ok (.iconst 0, 1) := by decide +kernel
theorem dX12_wouldNow_14 : decode cX12_wouldNow 14 = .ok (.istore 5, 2) := by decide +kernel
theorem dX12_wouldNow_16 : decode cX12_wouldNow 16 = .ok (.iload 5, 2) := by decide +kernel
theorem dX12_wouldNow_18 : decode cX12_wouldNow 18 = .ok (.iload_n 1, 1) := by decide +kernel
theorem dX12_wouldNow_19 : decode cX12_wouldNow 19 = .ok (.if_icmp .ge 25, 3) := by decide +kernel
theorem dX12_wouldNow_22 : decode cX12_wouldNow 22 = .ok (.aload_n 3, 1) := by decide +kernel
theorem dX12_wouldNow_23 : decode cX12_wouldNow 23 = .ok (.invokevirtual 129, 3) := by decide +kernel
theorem dX12_wouldNow_26 : decode cX12_wouldNow 26 = .ok (.pop, 1) := by decide +kernel
theorem dX12_wouldNow_27 : decode cX12_wouldNow 27 = .ok (.iload 4, 2) := by decide +kernel
theorem dX12_wouldNow_29 : decode cX12_wouldNow 29 = .ok (.aload_n 3, 1) := by decide +kernel
theorem dX12_wouldNow_30 : decode cX12_wouldNow 30 = .ok (.getfield 95, 3) := by decide +kernel
theorem dX12_wouldNow_33 : decode cX12_wouldNow 33 = .ok (.invokestatic 244, 3) := by decide +kernel
theorem dX12_wouldNow_36 : decode cX12_wouldNow 36 = .ok (.istore 4, 2) := by decide +kernel
theorem dX12_wouldNow_38 : decode cX12_wouldNow 38 = .ok (.iinc 5 1, 3) := by decide +kernel
theorem dX12_wouldNow_41 : decode cX12_wouldNow 41 = .ok (.goto (-25), 3) := by decide +kernel
theorem dX12_wouldNow_44 : decode cX12_wouldNow 44 = .ok (.iload_n 2, 1) := by decide +kernel
theorem dX12_wouldNow_45 : decode cX12_wouldNow 45 = .ok (.ifCond .ne 10, 3) := by decide +kernel
theorem dX12_wouldNow_48 : decode cX12_wouldNow 48 = .ok (.aload_n 3, 1) := by decide +kernel
theorem dX12_wouldNow_49 : decode cX12_wouldNow 49 = .ok (.getfield 206, 3) := by decide +kernel
theorem dX12_wouldNow_52 : decode cX12_wouldNow 52 = .ok (.goto 5, 3) := by decide +kernel
theorem dX12_wouldNow_55 : decode cX12_wouldNow 55 = .ok (.iload 4, 2) := by decide +kernel
theorem dX12_wouldNow_57 : decode cX12_wouldNow 57 = .ok (.ireturn, 1) := by decide +kernel
theorem dX12_would_0 : decode cX12_would 0 = .ok (.aload_n 0, 1) := by decide +kernel
theorem dX12_would_1 : decode cX12_would 1 = .ok (.iload_n 1, 1) := by decide +kernel
theorem dX12_would_2 : decode cX12_would 2 = .ok (.iconst 1, 1) := by decide +kernel
theorem dX12_would_3 : decode cX12_would 3 = .ok (.bipush 60, 2) := by decide +kernel
theorem dX12_would_5 : decode cX12_would 5 = .ok (.invokestatic 38, 3) := by decide +kernel
theorem dX12_would_8 : decode cX12_would 8 = .ok (.ifCond .eq 12, 3) := by decide +kernel
theorem dX12_would_11 : decode cX12_would 11 = .ok (.iload_n 2, 1) := by decide +kernel
theorem dX12_would_12 : decode cX12_would 12 = .ok (.iconst 0, 1) := by decide +kernel
theorem dX12_would_13 : decode cX12_would 13 = .ok (.iconst 1, 1) := by decide +kernel
theorem dX12_would_14 : decode cX12_would 14 = .ok (.invokestatic 38, 3) := by decide +kernel
theorem dX12_would_17 : decode cX12_would 17 = .ok (.ifCond .ne 7, 3) := by decide +kernel
theorem dX12_would_20 : decode cX12_would 20 = .ok (.iconst 1, 1) := by decide +kernel
theorem dX12_would_21 : decode cX12_would 21 = .ok (.goto 4, 3) := by decide +kernel
theorem dX12_would_24 : decode cX12_would 24 = .ok (.iconst 0, 1) := by decide +kernel
theorem dX12_would_25 : decode cX12_would 25 = .ok (.iconst 1, 1) := by decide +kernel
theorem dX12_would_26 : decode cX12_would 26 = .ok (.invokevirtual 45, 3) := by decide +kernel
theorem dX12_would_29 : decode cX12_would 29 = .ok (.ifCond .eq 7, 3) := by decide +kernel
theorem dX12_would_32 : decode cX12_would 32 = .ok (.iconst 0, 1) := by decide +kernel
theorem dX12_would_33 : decode cX12_would 33 = .ok (.goto 9, 3) := by decide +kernel
theorem dX12_would_36 : decode cX12_would 36 = .ok (.aload_n 0, 1) := by decide +kernel
theorem dX12_would_37 : decode cX12_would 37 = .ok (.iload_n 1, 1) := by decide +kernel
theorem dX12_would_38 : decode cX12_would 38 = .ok (.iload_n 2, 1) := by decide +kernel
theorem dX12_would_39 : decode cX12_would 39 = .ok (.invokevirtual 247, 3) := by decide +kernel
theorem dX12_would_42 : decode cX12_would 42 = .ok (.ireturn, 1) := by decide +kernel
theorem dX12_add_0 : decode cX12_add 0 = .ok (.lload_n 0, 1) := by decide +kernel
theorem dX12_add_1 : decode cX12_add 1 = .ok (.ldc2_w 250, 3) := by decide +kernel
theorem dX12_add_4 : decode cX12_add 4 = .ok (.lmul, 1) := by decide +kernel
theorem dX12_add_5 : decode cX12_add 5 = .ok (.lload_n 2, 1) := by decide +kernel
theorem dX12_add_6 : decode cX12_add 6 = .ok (.ladd, 1) := by decide +kernel
theorem dX12_add_7 : decode cX12_add 7 = .ok (.lreturn, 1) := by decide +kernel
theorem dX12_digest_0 : decode cX12_digest 0 = .ok (.aload_n 0, 1) := by decide +kernel
theorem dX12_digest_1 : decode cX12_digest 1 = .ok (.iconst 0, 1) := by decide +kernel
theorem dX12_digest_2 : decode cX12_digest 2 = .ok (.putfield 23, 3) := by decide +kernel
theorem dX12_digest_5 : decode cX12_digest 5 = .ok (.ldc2_w 252, 3) := by decide +kernel
theorem dX12_digest_8 : decode cX12_digest 8 = .ok (.lstore_n 1, 1) := by decide +kernel
theorem dX12_digest_9 : decode cX12_digest 9 = .ok (.iconst 0, 1) := by decide +kernel
theorem dX12_digest_10 : decode cX12_digest 10 = .ok (.istore_n 3, 1) := by decide +kernel
theorem dX12_digest_11 : decode cX12_digest 11 = .ok (.iload_n 3, 1) := by decide +kernel
theorem dX12_digest_12 : decode cX12_digest 12 = .ok (.bipush 16, 2) := by decide +kernel
theorem dX12_digest_14 : decode cX12_digest 14 = .ok (.if_icmp .ge 20, 3) := by decide +kernel
theorem dX12_digest_17 : decode cX12_digest 17 = .ok (.lload_n 1, 1) := by decide +kernel
theorem dX12_digest_18 : decode cX12_digest 18 = .ok (.aload_n 0, 1) := by decide +kernel
theorem dX12_digest_19 : decode cX12_digest 19 = .ok (.iload_n 3, 1) := by decide +kernel
theorem dX12_digest_20 : decode cX12_digest 20 = .ok (.invokevirtual 224, 3) := by decide +kernel
theorem dX12_digest_23 : decode cX12_digest 23 = .ok (.i2l, 1) := by decide +kernel
theorem dX12_digest_24 : decode cX12_digest 24 = .ok (.invokestatic 254, 3) := by decide +kernel
theorem dX12_digest_27 : decode cX12_digest 27 = .ok (.lstore_n 1, 1) := by decide +kernel
theorem dX12_digest_28 : decode cX12_digest 28 = .ok (.iinc 3 1, 3) := by decide +kernel
theorem dX12_digest_31 : decode cX12_digest 31 = .ok (.goto (-20), 3) := by decide +kernel
theorem dX12_digest_34 : decode cX12_digest 34 = .ok (.iconst 0, 1) := by decide +kernel
theorem dX12_digest_35 : decode cX12_digest 35 = .ok (.istore_n 3, 1) := by decide +kernel
theorem dX12_digest_36 : decode cX12_digest 36 = .ok (.iload_n 3, 1) := by decide +kernel
theorem dX12_digest_37 : decode cX12_digest 37 = .ok (.aload_n 0, 1) := by decide +kernel
theorem dX12_digest_38 : decode cX12_digest 38 = .ok (.getfield 10, 3) := by decide +kernel
theorem dX12_digest_41 : decode cX12_digest 41 = .ok (.getfield 31, 3) := by decide +kernel
theorem dX12_digest_44 : decode cX12_digest 44 = .ok (.invokevirtual 34, 3) := by decide +kernel
theorem dX12_digest_47 : decode cX12_digest 47 = .ok (.if_icmp .ge 38, 3) := by decide +kernel
theorem dX12_digest_50 : decode cX12_digest 50 = .ok (.iconst 0, 1) := by decide +kernel
theorem dX12_digest_51 : decode cX12_digest 51 = .ok (.istore 4, 2) := by decide +kernel
theorem dX12_digest_53 : decode cX12_digest 53 = .ok (.iload 4, 2) := by decide +kernel
theorem dX12_digest_55 : decode cX12_digest 55 = .ok (.bipush 7, 2) := by decide +kernel
theorem dX12_digest_57 : decode cX12_digest 57 = .ok (.if_icmp .ge 22, 3) := by decide +kernel
theorem dX12_digest_60 : decode cX12_digest 60 = .ok (.lload_n 1, 1) := by decide +kernel
theorem dX12_digest_61 : decode cX12_digest 61 = .ok (.aload_n 0, 1) := by decide +kernel
theorem dX12_digest_62 : decode cX12_digest 62 = .ok (.iload_n 3, 1) := by decide +kernel
theorem dX12_digest_63 : decode cX12_digest 63 = .ok (.iload 4, 2) := by decide +kernel
theorem dX12_digest_65 : decode cX12_digest 65 = .ok (.invokevirtual 148, 3) := by decide +kernel
theorem dX12_digest_68 : decode cX12_digest 68 = .ok (.i2l, 1) := by decide +kernel
theorem dX12_digest_69 : decode cX12_digest 69 = .ok (.invokestatic 254, 3) := by decide +kernel
theorem dX12_digest_72 : decode cX12_digest 72 = .ok (.lstore_n 1, 1) := by decide +kernel
theorem dX12_digest_73 : decode cX12_digest 73 = .ok (.iinc 4 1, 3) := by decide +kernel
theorem dX12_digest_76 : decode cX12_digest 76 = .ok (.goto (-23), 3) := by decide +kernel
theorem dX12_digest_79 : decode cX12_digest 79 = .ok (.iinc 3 1, 3) := by decide +kernel
theorem dX12_digest_82 : decode cX12_digest 82 = .ok (.goto (-46), 3) := by decide +kernel
theorem dX12_digest_85 : decode cX12_digest 85 = .ok (.iconst 0, 1) := by decide +kernel
theorem dX12_digest_86 : decode cX12_digest 86 = .ok (.istore_n 3, 1) := by decide +kernel
theorem dX12_digest_87 : decode cX12_digest 87 = .ok (.iload_n 3, 1) := by decide +kernel
theorem dX12_digest_88 : decode cX12_digest 88 = .ok (.aload_n 0, 1) := by decide +kernel
theorem dX12_digest_89 : decode cX12_digest 89 = .ok (.getfield 10, 3) := by decide +kernel
theorem dX12_digest_92 : decode cX12_digest 92 = .ok (.getfield 42, 3) := by decide +kernel
theorem dX12_digest_95 : decode cX12_digest 95 = .ok (.invokevirtual 34, 3) := by decide +kernel
theorem dX12_digest_98 : decode cX12_digest 98 = .ok (.if_icmp .ge 74, 3) := by decide +kernel
theorem dX12_digest_101 : decode cX12_digest 101 = .ok (.iconst 0, 1) := by decide +kernel
theorem dX12_digest_102 : decode cX12_digest 102 = .ok (.istore 4, 2) := by decide +kernel
theorem dX12_digest_104 : decode cX12_digest 104 = .ok (.iload 4, 2) := by decide +kernel
theorem dX12_digest_106 : decode cX12_digest 106 = .ok (.bipush 12, 2) := by decide +kernel
theorem dX12_digest_108 : decode cX12_digest 108 = .ok (.if_icmp .ge 22, 3) := by decide +kernel
theorem dX12_digest_111 : decode cX12_digest 111 = .ok (.lload_n 1, 1) := by decide +kernel
theorem dX12_digest_112 : decode cX12_digest 112 = .ok (.aload_n 0, 1) := by decide +kernel
theorem dX12_digest_113 : decode cX12_digest 113 = .ok (.iload_n 3, 1) := by decide +kernel
theorem dX12_digest_114 : decode cX12_digest 114 = .ok (.iload 4, 2) := by decide +kernel
theorem dX12_digest_116 : decode cX12_digest 116 = .ok (.invokevirtual 176, 3) := by decide +kernel
theorem dX12_digest_119 : decode cX12_digest 119 = .ok (.i2l, 1) := by decide +kernel
theorem dX12_digest_120 : decode cX12_digest 120 = .ok (.invokestatic 254, 3) := by decide +kernel
theorem dX12_digest_123 : decode cX12_digest 123 = .ok (.lstore_n 1, 1) := by decide +kernel
theorem dX12_digest_124 : decode cX12_digest 124 = .ok (.iinc 4 1, 3) := by decide +kernel
theorem dX12_digest_127 : decode cX12_digest 127 = .ok (.goto (-23), 3) := by decide +kernel
theorem dX12_digest_130 : decode cX12_digest 130 = .ok (.lload_n 1, 1) := by decide +kernel
theorem dX12_digest_131 : decode cX12_digest 131 = .ok (.aload_n 0, 1) := by decide +kernel
theorem dX12_digest_132 : decode cX12_digest 132 = .ok (.iload_n 3, 1) := by decide +kernel
theorem dX12_digest_133 : decode cX12_digest 133 = .ok (.iconst 5, 1) := by decide +kernel
theorem dX12_digest_134 : decode cX12_digest 134 = .ok (.invokevirtual 235, 3) := by decide +kernel
theorem dX12_digest_137 : decode cX12_digest 137 = .ok (.i2l, 1) := by decide +kernel
theorem dX12_digest_138 : decode cX12_digest 138 = .ok (.invokestatic 254, 3) := by decide +kernel
theorem dX12_digest_141 : decode cX12_digest 141 = .ok (.lstore_n 1, 1) := by decide +kernel
theorem dX12_digest_142 : decode cX12_digest 142 = .ok (.lload_n 1, 1) := by decide +kernel
theorem dX12_digest_143 : decode cX12_digest 143 = .ok (.aload_n 0, 1) := by decide +kernel
theorem dX12_digest_144 : decode cX12_digest 144 = .ok (.iload_n 3, 1) := by decide +kernel
theorem dX12_digest_145 : decode cX12_digest 145 = .ok (.bipush 20, 2) := by decide +kernel
theorem dX12_digest_147 : decode cX12_digest 147 = .ok (.invokevirtual 238, 3) := by decide +kernel
theorem dX12_digest_150 : decode cX12_digest 150 = .ok (.i2l, 1) := by decide +kernel
theorem dX12_digest_151 : decode cX12_digest 151 = .ok (.invokestatic 254, 3) := by decide +kernel
theorem dX12_digest_154 : decode cX12_digest 154 = .ok (.aload_n 0, 1) := by decide +kernel
theorem dX12_digest_155 : decode cX12_digest 155 = .ok (.iload_n 3, 1) := by decide +kernel
theorem dX12_digest_156 : decode cX12_digest 156 = .ok (.bipush 20, 2) := by decide +kernel
theorem dX12_digest_158 : decode cX12_digest 158 = .ok (.invokevirtual 241, 3) := by decide +kernel
theorem dX12_digest_161 : decode cX12_digest 161 = .ok (.i2l, 1) := by decide +kernel
theorem dX12_digest_162 : decode cX12_digest 162 = .ok (.invokestatic 254, 3) := by decide +kernel
theorem dX12_digest_165 : decode cX12_digest 165 = .ok (.lstore_n 1, 1) := by decide +kernel
theorem dX12_digest_166 : decode cX12_digest 166 = .ok (.iinc 3 1, 3) := by decide +kernel
theorem dX12_digest_169 : decode cX12_digest 169 = .ok (.goto (-82), 3) := by decide +kernel
theorem dX12_digest_172 : decode cX12_digest 172 = .ok (.iconst 1, 1) := by decide +kernel
theorem dX12_digest_173 : decode cX12_digest 173 = .ok (.istore_n 3, 1) := by decide +kernel
theorem dX12_digest_174 : decode cX12_digest 174 = .ok (.iload_n 3, 1) := by decide +kernel
theorem dX12_digest_175 : decode cX12_digest 175 = .ok (.bipush 8, 2) := by decide +kernel
theorem dX12_digest_177 : decode cX12_digest 177 = .ok (.if_icmp .gt 28, 3) := by decide +kernel
theorem dX12_digest_180 : decode cX12_digest 180 = .ok (.lload_n 1, 1) := by decide +kernel
theorem dX12_digest_181 : decode cX12_digest 181 = .ok (.aload_n 0, 1) := by decide +kernel
theorem dX12_digest_182 : decode cX12_digest 182 = .ok (.aload_n 0, 1) := by decide +kernel
theorem dX12_digest_183 : decode cX12_digest 183 = .ok (.getfield 10, 3) := by decide +kernel
theorem dX12_digest_186 : decode cX12_digest 186 = .ok (.getfield 123, 3) := by decide +kernel
theorem dX12_digest_189 : decode cX12_digest 189 = .ok (.iload_n 3, 1) := by decide +kernel
theorem dX12_digest_190 : decode cX12_digest 190 = .ok (.iadd, 1) := by decide +kernel
theorem dX12_digest_191 : decode cX12_digest 191 = .ok (.invokevirtual 182, 3) := by decide +kernel
theorem dX12_digest_194 : decode cX12_digest 194 = .ok (.i2l, 1) := by decide +kernel
theorem dX12_digest_195 : decode cX12_digest 195 = .ok (.invokestatic 254, 3) := by decide +kernel
theorem dX12_digest_198 : decode cX12_digest 198 = .ok (.lstore_n 1, 1) := by decide +kernel
theorem dX12_digest_199 : decode cX12_digest 199 = .ok (.iinc 3 1, 3) := by decide +kernel
theorem dX12_digest_202 : decode cX12_digest 202 = .ok (.goto (-28), 3) := by decide +kernel
theorem dX12_digest_205 : decode cX12_digest 205 = .ok (.iconst 0, 1) := by decide +kernel
theorem dX12_digest_206 : decode cX12_digest 206 = .ok (.istore_n 3, 1) := by decide +kernel
theorem dX12_digest_207 : decode cX12_digest 207 = .ok (.iload_n 3, 1) := by decide +kernel
theorem dX12_digest_208 : decode cX12_digest 208 = .ok (.aload_n 0, 1) := by decide +kernel
theorem dX12_digest_209 : decode cX12_digest 209 = .ok (.getfield 10, 3) := by decide +kernel
theorem dX12_digest_212 : decode cX12_digest 212 = .ok (.getfield 116, 3) := by decide +kernel
theorem dX12_digest_215 : decode cX12_digest 215 = .ok (.invokevirtual 34, 3) := by decide +kernel
theorem dX12_digest_218 : decode cX12_digest 218 = .ok (.if_icmp .ge 20, 3) := by decide +kernel
theorem dX12_digest_221 : decode cX12_digest 221 = .ok (.lload_n 1, 1) := by decide +kernel
theorem dX12_digest_222 : decode cX12_digest 222 = .ok (.aload_n 0, 1) := by decide +kernel
theorem dX12_digest_223 : decode cX12_digest 223 = .ok (.iload_n 3, 1) := by decide +kernel
theorem dX12_digest_224 : decode cX12_digest 224 = .ok (.invokevirtual 192, 3) := by decide +kernel
theorem dX12_digest_227 : decode cX12_digest 227 = .ok (.i2l, 1) := by decide +kernel
theorem dX12_digest_228 : decode cX12_digest 228 = .ok (.invokestatic 254, 3) := by decide +kernel
theorem dX12_digest_231 : decode cX12_digest 231 = .ok (.lstore_n 1, 1) := by decide +kernel
theorem dX12_digest_232 : decode cX12_digest 232 = .ok (.iinc 3 1, 3) := by decide +kernel
theorem dX12_digest_235 : decode cX12_digest 235 = .ok (.goto (-28), 3) := by decide +kernel
theorem dX12_digest_238 : decode cX12_digest 238 = .ok (.lload_n 1, 1) := by decide +kernel
theorem dX12_digest_239 : decode cX12_digest 239 = .ok (.aload_n 0, 1) := by decide +kernel
theorem dX12_digest_240 : decode cX12_digest 240 = .ok (.bipush 12, 2) := by decide +kernel
theorem dX12_digest_242 : decode cX12_digest 242 = .ok (.iconst 0, 1) := by decide +kernel
theorem dX12_digest_243 : decode cX12_digest 243 = .ok (.invokevirtual 247, 3) := by decide +kernel
theorem dX12_digest_246 : decode cX12_digest 246 = .ok (.i2l, 1) := by decide +kernel
theorem dX12_digest_247 : decode cX12_digest 247 = .ok (.invokestatic 254, 3) := by decide +kernel
theorem dX12_digest_250 : decode cX12_digest 250 = .ok (.aload_n 0, 1) := by decide +kernel
theorem dX12_digest_251 : decode cX12_digest 251 = .ok (.bipush 12, 2) := by decide +kernel
theorem dX12_digest_253 : decode cX12_digest 253 = .ok (.iconst 1, 1) := by decide +kernel
theorem dX12_digest_254 : decode cX12_digest 254 = .ok (.invokevirtual 247, 3) := by decide +kernel
theorem dX12_digest_257 : decode cX12_digest 257 = .ok (.i2l, 1) := by decide +kernel
theorem dX12_digest_258 : decode cX12_digest 258 = .ok (.invokestatic 254, 3) := by decide +kernel
theorem dX12_digest_261 : decode cX12_digest 261 = .ok (.lreturn, 1) := by decide +kernel
theorem dJ6_bitCount_0f7a4_0 : decode cJ6_bitCount_0f7a4 0 = .ok (.iload_n 0, 1) := by decide +kernel
theorem dJ6_bitCount_0f7a4_1 : decode cJ6_bitCount_0f7a4 1 = .ok (.iload_n 0, 1) := by decide +kernel
theorem dJ6_bitCount_0f7a4_2 : decode cJ6_bitCount_0f7a4 2 = .ok (.iconst 1, 1) := by decide +kernel
theorem dJ6_bitCount_0f7a4_3 : decode cJ6_bitCount_0f7a4 3 = .ok (.iushr, 1) := by decide +kernel
theorem dJ6_bitCount_0f7a4_4 : decode cJ6_bitCount_0f7a4 4 = .ok (.ldc_w 265, 3) := by decide +kernel
theorem dJ6_bitCount_0f7a4_7 : decode cJ6_bitCount_0f7a4 7 = .ok (.iand, 1) := by decide +kernel
theorem dJ6_bitCount_0f7a4_8 : decode cJ6_bitCount_0f7a4 8 = .ok (.isub, 1) := by decide +kernel
theorem dJ6_bitCount_0f7a4_9 : decode cJ6_bitCount_0f7a4 9 = .ok (.istore_n 0, 1) := by decide +kernel
theorem dJ6_bitCount_0f7a4_10 : decode cJ6_bitCount_0f7a4 10 = .ok (.iload_n 0, 1) := by decide +kernel
theorem dJ6_bitCount_0f7a4_11 : decode cJ6_bitCount_0f7a4 11 = .ok (.ldc_w 266, 3) := by decide +kernel
theorem dJ6_bitCount_0f7a4_14 : decode cJ6_bitCount_0f7a4 14 = .ok (.iand, 1) := by decide +kernel
theorem dJ6_bitCount_0f7a4_15 : decode cJ6_bitCount_0f7a4 15 = .ok (.iload_n 0, 1) := by decide +kernel
theorem dJ6_bitCount_0f7a4_16 : decode cJ6_bitCount_0f7a4 16 = .ok (.iconst 2, 1) := by decide +kernel
theorem dJ6_bitCount_0f7a4_17 : decode cJ6_bitCount_0f7a4 17 = .ok (.iushr, 1) := by decide +kernel
theorem dJ6_bitCount_0f7a4_18 : decode cJ6_bitCount_0f7a4 18 = .ok (.ldc_w 266, 3) := by decide +kernel
theorem dJ6_bitCount_0f7a4_21 : decode cJ6_bitCount_0f7a4 21 = .ok (.iand, 1) := by decide +kernel
theorem dJ6_bitCount_0f7a4_22 : decode cJ6_bitCount_0f7a4 22 = .ok (.iadd, 1) := by decide +kernel
theorem dJ6_bitCount_0f7a4_23 : decode cJ6_bitCount_0f7a4 23 = .ok (.istore_n 0, 1) := by decide +kernel
theorem dJ6_bitCount_0f7a4_24 : decode cJ6_bitCount_0f7a4 24 = .ok (.iload_n 0, 1) := by decide +kernel
theorem dJ6_bitCount_0f7a4_25 : decode cJ6_bitCount_0f7a4 25 = .ok (.iload_n 0, 1) := by decide +kernel
theorem dJ6_bitCount_0f7a4_26 : decode cJ6_bitCount_0f7a4 26 = .ok (.iconst 4, 1) := by decide +kernel
theorem dJ6_bitCount_0f7a4_27 : decode cJ6_bitCount_0f7a4 27 = .ok (.iushr, 1) := by decide +kernel
theorem dJ6_bitCount_0f7a4_28 : decode cJ6_bitCount_0f7a4 28 = .ok (.iadd, 1) := by decide +kernel
theorem dJ6_bitCount_0f7a4_29 : decode cJ6_bitCount_0f7a4 29 = .ok (.ldc_w 267, 3) := by decide +kernel
theorem dJ6_bitCount_0f7a4_32 : decode cJ6_bitCount_0f7a4 32 = .ok (.iand, 1) := by decide +kernel
theorem dJ6_bitCount_0f7a4_33 : decode cJ6_bitCount_0f7a4 33 = .ok (.istore_n 0, 1) := by decide +kernel
theorem dJ6_bitCount_0f7a4_34 : decode cJ6_bitCount_0f7a4 34 = .ok (.iload_n 0, 1) := by decide +kernel
theorem dJ6_bitCount_0f7a4_35 : decode cJ6_bitCount_0f7a4 35 = .ok (.iload_n 0, 1) := by decide +kernel
theorem dJ6_bitCount_0f7a4_36 : decode cJ6_bitCount_0f7a4 36 = .ok (.bipush 8, 2) := by decide +kernel
theorem dJ6_bitCount_0f7a4_38 : decode cJ6_bitCount_0f7a4 38 = .ok (.iushr, 1) := by decide +kernel
theorem dJ6_bitCount_0f7a4_39 : decode cJ6_bitCount_0f7a4 39 = .ok (.iadd, 1) := by decide +kernel
theorem dJ6_bitCount_0f7a4_40 : decode cJ6_bitCount_0f7a4 40 = .ok (.istore_n 0, 1) := by decide +kernel
theorem dJ6_bitCount_0f7a4_41 : decode cJ6_bitCount_0f7a4 41 = .ok (.iload_n 0, 1) := by decide +kernel
theorem dJ6_bitCount_0f7a4_42 : decode cJ6_bitCount_0f7a4 42 = .ok (.iload_n 0, 1) := by decide +kernel
theorem dJ6_bitCount_0f7a4_43 : decode cJ6_bitCount_0f7a4 43 = .ok (.bipush 16, 2) := by decide +kernel
theorem dJ6_bitCount_0f7a4_45 : decode cJ6_bitCount_0f7a4 45 = .ok (.iushr, 1) := by decide +kernel
theorem dJ6_bitCount_0f7a4_46 : decode cJ6_bitCount_0f7a4 46 = .ok (.iadd, 1) := by decide +kernel
theorem dJ6_bitCount_0f7a4_47 : decode cJ6_bitCount_0f7a4 47 = .ok (.istore_n 0, 1) := by decide +kernel
theorem dJ6_bitCount_0f7a4_48 : decode cJ6_bitCount_0f7a4 48 = .ok (.iload_n 0, 1) := by decide +kernel
theorem dJ6_bitCount_0f7a4_49 : decode cJ6_bitCount_0f7a4 49 = .ok (.bipush 63, 2) := by decide +kernel
theorem dJ6_bitCount_0f7a4_51 : decode cJ6_bitCount_0f7a4 51 = .ok (.iand, 1) := by decide +kernel
theorem dJ6_bitCount_0f7a4_52 : decode cJ6_bitCount_0f7a4 52 = .ok (.ireturn, 1) := by decide +kernel
theorem dJ9_floorMod_7cf53_0 : decode cJ9_floorMod_7cf53 0 = .ok (.iload_n 0, 1) := by decide +kernel
theorem dJ9_floorMod_7cf53_1 : decode cJ9_floorMod_7cf53 1 = .ok (.iload_n 1, 1) := by decide +kernel
theorem dJ9_floorMod_7cf53_2 : decode cJ9_floorMod_7cf53 2 = .ok (.irem, 1) := by decide +kernel
theorem dJ9_floorMod_7cf53_3 : decode cJ9_floorMod_7cf53 3 = .ok (.istore_n 2, 1) := by decide +kernel
theorem dJ9_floorMod_7cf53_4 : decode cJ9_floorMod_7cf53 4 = .ok (.iload_n 0, 1) := by decide +kernel
theorem dJ9_floorMod_7cf53_5 : decode cJ9_floorMod_7cf53 5 = .ok (.iload_n 1, 1) := by decide +kernel
theorem dJ9_floorMod_7cf53_6 : decode cJ9_floorMod_7cf53 6 = .ok (.ixor, 1) := by decide +kernel
theorem dJ9_floorMod_7cf53_7 : decode cJ9_floorMod_7cf53 7 = .ok (.ifCond .ge 11, 3) := by decide +kernel
theorem dJ9_floorMod_7cf53_10 : decode cJ9_floorMod_7cf53 10 = .ok (.iload_n 2, 1) := by decide +kernel
theorem dJ9_floorMod_7cf53_11 : decode cJ9_floorMod_7cf53 11 = .ok (.ifCond .eq 7, 3) := by decide +kernel
theorem dJ9_floorMod_7cf53_14 : decode cJ9_floorMod_7cf53 14 = .ok (.iload_n 2, 1) := by decide +kernel
theorem dJ9_floorMod_7cf53_15 : decode cJ9_floorMod_7cf53 15 = .ok (.iload_n 1, 1) := by decide +kernel
theorem dJ9_floorMod_7cf53_16 : decode cJ9_floorMod_7cf53 16 = .ok (.iadd, 1) := by decide +kernel
theorem dJ9_floorMod_7cf53_17 : decode cJ9_floorMod_7cf53 17 = .ok (.ireturn, 1) := by decide +kernel
theorem dJ9_floorMod_7cf53_18 : decode cJ9_floorMod_7cf53 18 = .ok (.iload_n 2, 1) := by decide +kernel
theorem dJ9_floorMod_7cf53_19 : decode cJ9_floorMod_7cf53 19 = .ok (.ireturn, 1) := by decide +kernel
theorem dJxa1e45_init_da8c8_0 : decode cJxa1e45_init_da8c8 0 = .ok (.aload_n 0, 1) := by decide +kernel
theorem dJxa1e45_init_da8c8_1 : decode cJxa1e45_init_da8c8 1 = .ok (.invokespecial 1, 3) := by decide +kernel
theorem dJxa1e45_init_da8c8_4 : decode cJxa1e45_init_da8c8 4 = .ok (.return_, 1) := by decide +kernel
theorem dJxc12de_init_da8c8_0 : decode cJxc12de_init_da8c8 0 = .ok (.aload_n 0, 1) := by decide +kernel
theorem dJxc12de_init_da8c8_1 : decode cJxc12de_init_da8c8 1 = .ok (.invokespecial 1, 3) := by decide +kernel
theorem dJxc12de_init_da8c8_4 : decode cJxc12de_init_da8c8 4 = .ok (.aload_n 0, 1) := by decide +kernel
theorem dJxc12de_init_da8c8_5 : decode cJxc12de_init_da8c8 5 = .ok (.iconst 0, 1) := by decide +kernel
theorem dJxc12de_init_da8c8_6 : decode cJxc12de_init_da8c8 6 = .ok (.putfield 7, 3) := by decide +kernel
theorem dJxc12de_init_da8c8_9 : decode cJxc12de_init_da8c8 9 = .ok (.return_, 1) := by decide +kernel
theorem dJx4a65c_init_da8c8_0 : decode cJx4a65c_init_da8c8 0 = .ok (.aload_n 0, 1) := by decide +kernel
theorem dJx4a65c_init_da8c8_1 : decode cJx4a65c_init_da8c8 1 = .ok (.invokespecial 1, 3) := by decide +kernel
theorem dJx4a65c_init_da8c8_4 : decode cJx4a65c_init_da8c8 4 = .ok (.aload_n 0, 1) := by decide +kernel
theorem dJx4a65c_init_da8c8_5 : decode cJx4a65c_init_da8c8 5 = .ok (.getstatic 39, 3) := by decide +kernel
theorem dJx4a65c_init_da8c8_8 : decode cJx4a65c_init_da8c8 8 = .ok (.putfield 9, 3) := by decide +kernel
theorem dJx4a65c_init_da8c8_11 : decode cJx4a65c_init_da8c8 11 = .ok (.return_, 1) := by decide +kernel
theorem dJx4a65c_grow_92f84_0 : decode cJx4a65c_grow_92f84 0 = .ok (.aload_n 0, 1) := by decide +kernel
theorem dJx4a65c_grow_92f84_1 : decode cJx4a65c_grow_92f84 1 = .ok (.getfield 9, 3) := by decide +kernel
theorem dJx4a65c_grow_92f84_4 : decode cJx4a65c_grow_92f84 4 = .ok (.arraylength, 1) := by decide +kernel
theorem dJx4a65c_grow_92f84_5 : decode cJx4a65c_grow_92f84 5 = .ok (.istore_n 2, 1) := by decide +kernel
theorem dJx4a65c_grow_92f84_6 : decode cJx4a65c_grow_92f84 6 = .ok (.iload_n 2, 1) := by decide +kernel
theorem dJx4a65c_grow_92f84_7 : decode cJx4a65c_grow_92f84 7 = .ok (.ifCond .gt 13, 3) := by decide +kernel
theorem dJx4a65c_grow_92f84_10 : decode cJx4a65c_grow_92f84 10 = .ok (.aload_n 0, 1) := by decide +kernel
theorem dJx4a65c_grow_92f84_11 : decode cJx4a65c_grow_92f84 11 = .ok (.getfield 9, 3) := by decide +kernel
theorem dJx4a65c_grow_92f84_14 : decode cJx4a65c_grow_92f84 14 = .ok (.getstatic 39, 3) := by decide +kernel
theorem dJx4a65c_grow_92f84_17 : decode cJx4a65c_grow_92f84 17 = .ok (.if_acmp .eq 28, 3) := by decide +kernel
theorem dJx4a65c_grow_92f84_20 : decode cJx4a65c_grow_92f84 20 = .ok (.iload_n 2, 1) := by decide +kernel
theorem dJx4a65c_grow_92f84_21 : decode cJx4a65c_grow_92f84 21 = .ok (.iload_n 1, 1) := by decide +kernel
theorem dJx4a65c_grow_92f84_22 : decode cJx4a65c_grow_92f84 22 = .ok (.iload_n 2, 1) := by decide +kernel
theorem dJx4a65c_grow_92f84_23 : decode cJx4a65c_grow_92f84 23 = .ok (.isub, 1) := by decide +kernel
theorem dJx4a65c_grow_92f84_24 : decode cJx4a65c_grow_92f84 24 = .ok (.iload_n 2, 1) := by decide +kernel
theorem dJx4a65c_grow_92f84_25 : decode cJx4a65c_grow_92f84 25 = .ok (.iconst 1, 1) := by decide +kernel
theorem dJx4a65c_grow_92f84_26 : decode cJx4a65c_grow_92f84 26 = .ok (.ishr, 1) := by decide +kernel
theorem dJx4a65c_grow_92f84_27 : decode cJx4a65c_grow_92f84 27 = .ok (.invokestatic 73, 3) := by decide +kernel
theorem dJx4a65c_grow_92f84_30 : decode cJx4a65c_grow_92f84 30 = .ok (.istore_n 3, 1) := by decide +kernel
theorem dJx4a65c_grow_92f84_31 : decode cJx4a65c_grow_92f84 31 = .ok (.aload_n 0, 1) := by decide +kernel
theorem dJx4a65c_grow_92f84_32 : decode cJx4a65c_grow_92f84 32 = .ok (.aload_n 0, 1) := by decide +kernel
theorem dJx4a65c_grow_92f84_33 : decode cJx4a65c_grow_92f84 33 = .ok (.getfield 9, 3) := by decide +kernel
theorem dJx4a65c_grow_92f84_36 : decode cJx4a65c_grow_92f84 36 = .ok (.iload_n 3, 1) := by decide +kernel
theorem dJx4a65c_grow_92f84_37 : decode cJx4a65c_grow_92f84 37 = .ok (.invokestatic 66, 3) := by decide +kernel
theorem dJx4a65c_grow_92f84_40 : decode cJx4a65c_grow_92f84 40 = .ok (.dup_x1, 1) := by decide +kernel
theorem dJx4a65c_grow_92f84_41 : decode cJx4a65c_grow_92f84 41 = .ok (.putfield 9, 3) := by decide +kernel
theorem dJx4a65c_grow_92f84_44 : decode cJx4a65c_grow_92f84 44 = .ok (.areturn, 1) := by decide +kernel
theorem dJx4a65c_grow_92f84_45 : decode cJx4a65c_grow_92f84 45 = .ok (.aload_n 0, 1) := by decide +kernel
theorem dJx4a65c_grow_92f84_46 : decode cJx4a65c_grow_92f84 46 = .ok (.bipush 10, 2) := by decide +kernel
theorem dJx4a65c_grow_92f84_48 : decode cJx4a65c_grow_92f84 48 = .ok (.iload_n 1, 1) := by decide +kernel
theorem dJx4a65c_grow_92f84_49 : decode cJx4a65c_grow_92f84 49 = .ok (.invokestatic 79, 3) := by decide +kernel
theorem dJx4a65c_grow_92f84_52 : decode cJx4a65c_grow_92f84 52 = .ok (.anewarray 7, 3) := by decide +kernel
theorem dJx4a65c_grow_92f84_55 : decode cJx4a65c_grow_92f84 55 = .ok (.dup_x1, 1) := by decide +kernel
theorem dJx4a65c_grow_92f84_56 : decode cJx4a65c_grow_92f84 56 = .ok (.putfield 9, 3) := by decide +kernel
theorem dJx4a65c_grow_92f84_59 : decode cJx4a65c_grow_92f84 59 = .ok (.areturn, 1) := by decide +kernel
theorem dJx4a65c_grow_d5877_0 : decode cJx4a65c_grow_d5877 0 = .ok (.aload_n 0, 1) := by decide +kernel
theorem dJx4a65c_grow_d5877_1 : decode cJx4a65c_grow_d5877 1 = .ok (.aload_n 0, 1) := by decide +kernel
theorem dJx4a65c_grow_d5877_2 : decode cJx4a65c_grow_d5877 2 = .ok (.getfield 48, 3) := by decide +kernel
theorem dJx4a65c_grow_d5877_5 : decode cJx4a65c_grow_d5877 5 = .ok (.iconst 1, 1) := by decide +kernel
theorem dJx4a65c_grow_d5877_6 : decode cJx4a65c_grow_d5877 6 = .ok (.iadd, 1) := by decide +kernel
theorem dJx4a65c_grow_d5877_7 : decode cJx4a65c_grow_d5877 7 = .ok (.invokevirtual 69, 3) := by decide +kernel
theorem dJx4a65c_grow_d5877_10 : decode cJx4a65c_grow_d5877 10 = .ok (.areturn, 1) := by decide +kernel
theorem dJx4a65c_size_8abf5_0 : decode cJx4a65c_size_8abf5 0 = .ok (.aload_n 0, 1) := by decide +kernel
theorem dJx4a65c_size_8abf5_1 : decode cJx4a65c_size_8abf5 1 = .ok (.getfield 48, 3) := by decide +kernel
theorem dJx4a65c_size_8abf5_4 : decode cJx4a65c_size_8abf5 4 = .ok (.ireturn, 1) := by decide +kernel
theorem dJx4a65c_isEmpty_aae02_0 : decode cJx4a65c_isEmpty_aae02 0 = .ok (.aload_n 0, 1) := by decide +kernel
theorem dJx4a65c_isEmpty_aae02_1 : decode cJx4a65c_isEmpty_aae02 1 = .ok (.getfield 48, 3) := by decide +kernel
theorem dJx4a65c_isEmpty_aae02_4 : decode cJx4a65c_isEmpty_aae02 4 = .ok (.ifCond .ne 7, 3) := by decide +kernel
theorem dJx4a65c_isEmpty_aae02_7 : decode cJx4a65c_isEmpty_aae02 7 = .ok (.iconst 1, 1) := by decide +kernel
theorem dJx4a65c_isEmpty_aae02_8 : decode cJx4a65c_isEmpty_aae02 8 = .ok (.goto 4, 3) := by decide +kernel
theorem dJx4a65c_isEmpty_aae02_11 : decode cJx4a65c_isEmpty_aae02 11 = .ok (.iconst 0, 1) := by decide +kernel
theorem dJx4a65c_isEmpty_aae02_12 : decode cJx4a65c_isEmpty_aae02 12 = .ok (.ireturn, 1) := by decide +kernel
theorem dJx4a65c_toArray_d5877_0 : decode cJx4a65c_toArray_d5877 0 = .ok (.aload_n 0, 1) := by decide +kernel
theorem dJx4a65c_toArray_d5877_1 : decode cJx4a65c_toArray_d5877 1 = .ok (.getfield 9, 3) := by decide +kernel
theorem dJx4a65c_toArray_d5877_4 : decode cJx4a65c_toArray_d5877 4 = .ok (.aload_n 0, 1) := by decide +kernel
theorem dJx4a65c_toArray_d5877_5 : decode cJx4a65c_toArray_d5877 5 = .ok (.getfield 48, 3) := by decide +kernel
theorem dJx4a65c_toArray_d5877_8 : decode cJx4a65c_toArray_d5877 8 = .ok (.invokestatic 66, 3) := by decide +kernel
theorem dJx4a65c_toArray_d5877_11 : decode cJx4a65c_toArray_d5877 11 = .ok (.areturn, 1) := by decide +kernel
theorem dJx4a65c_add_72be8_0 : decode cJx4a65c_add_72be8 0 = .ok (.iload_n 3, 1) := by decide +kernel
theorem dJx4a65c_add_72be8_1 : decode cJx4a65c_add_72be8 1 = .ok (.aload_n 2, 1) := by decide +kernel
theorem dJx4a65c_add_72be8_2 : decode cJx4a65c_add_72be8 2 = .ok (.arraylength, 1) := by decide +kernel
theorem dJx4a65c_add_72be8_3 : decode cJx4a65c_add_72be8 3 = .ok (.if_icmp .ne 8, 3) := by decide +kernel
theorem dJx4a65c_add_72be8_6 : decode cJx4a65c_add_72be8 6 = .ok (.aload_n 0, 1) := by decide +kernel
theorem dJx4a65c_add_72be8_7 : decode cJx4a65c_add_72be8 7 = .ok (.invokevirtual 129, 3) := by decide +kernel
theorem dJx4a65c_add_72be8_10 : decode cJx4a65c_add_72be8 10 = .ok (.astore_n 2, 1) := by decide +kernel
theorem dJx4a65c_add_72be8_11 : decode cJx4a65c_add_72be8 11 = .ok (.aload_n 2, 1) := by decide +kernel
theorem dJx4a65c_add_72be8_12 : decode cJx4a65c_add_72be8 12 = .ok (.iload_n 3, 1) := by decide +kernel
theorem dJx4a65c_add_72be8_13 : decode cJx4a65c_add_72be8 13 = .ok (.aload_n 1, 1) := by decide +kernel
theorem dJx4a65c_add_72be8_14 : decode cJx4a65c_add_72be8 14 = .ok (.aastore, 1) := by decide +kernel
theorem dJx4a65c_add_72be8_15 : decode cJx4a65c_add_72be8 15 = .ok (.aload_n 0, 1) := by decide +kernel
theorem dJx4a65c_add_72be8_16 : decode cJx4a65c_add_72be8 16 = .ok (.iload_n 3, 1) := by decide +kernel
theorem dJx4a65c_add_72be8_17 : decode cJx4a65c_add_72be8 17 = .ok (.iconst 1, 1) := by decide +kernel
theorem dJx4a65c_add_72be8_18 : decode cJx4a65c_add_72be8 18 = .ok (.iadd, 1) := by decide +kernel
theorem dJx4a65c_add_72be8_19 : decode cJx4a65c_add_72be8 19 = .ok (.putfield 48, 3) := by decide +kernel
theorem dJx4a65c_add_72be8_22 : decode cJx4a65c_add_72be8 22 = .ok (.return_, 1) := by decide +kernel
theorem dJx4a65c_add_9ea2d_0 : decode cJx4a65c_add_9ea2d 0 = .ok (.aload_n 0, 1) := by decide +kernel
theorem dJx4a65c_add_9ea2d_1 : decode cJx4a65c_add_9ea2d 1 = .ok (.dup, 1) := by decide +kernel
theorem dJx4a65c_add_9ea2d_2 : decode cJx4a65c_add_9ea2d 2 = .ok (.getfield 63, 3) := by decide +kernel
theorem dJx4a65c_add_9ea2d_5 : decode cJx4a65c_add_9ea2d 5 = .ok (.iconst 1, 1) := by decide +kernel
theorem dJx4a65c_add_9ea2d_6 : decode cJx4a65c_add_9ea2d 6 = .ok (.iadd, 1) := by decide +kernel
theorem dJx4a65c_add_9ea2d_7 : decode cJx4a65c_add_9ea2d 7 = .ok (.putfield 63, 3) := by decide +kernel
theorem dJx4a65c_add_9ea2d_10 : decode cJx4a65c_add_9ea2d 10 = .ok (.aload_n 0, 1) := by decide +kernel
theorem dJx4a65c_add_9ea2d_11 : decode cJx4a65c_add_9ea2d 11 = .ok (.aload_n 1, 1) := by decide +kernel
theorem dJx4a65c_add_9ea2d_12 : decode cJx4a65c_add_9ea2d 12 = .ok (.aload_n 0, 1) := by decide +kernel
theorem dJx4a65c_add_9ea2d_13 : decode cJx4a65c_add_9ea2d 13 = .ok (.getfield 9, 3) := by decide +kernel
theorem dJx4a65c_add_9ea2d_16 : decode cJx4a65c_add_9ea2d 16 = .ok (.aload_n 0, 1) := by decide +kernel
theorem dJx4a65c_add_9ea2d_17 : decode cJx4a65c_add_9ea2d 17 = .ok (.getfield 48, 3) := by decide +kernel
theorem dJx4a65c_add_9ea2d_20 : decode cJx4a65c_add_9ea2d 20 = .ok (.invokevirtual 131, 3) := by decide +kernel
theorem dJx4a65c_add_9ea2d_23 : decode cJx4a65c_add_9ea2d 23 = .ok (.iconst 1, 1) := by decide +kernel
theorem dJx4a65c_add_9ea2d_24 : decode cJx4a65c_add_9ea2d 24 = .ok (.ireturn, 1) := by decide +kernel
theorem dJx4a65c_addAll_f0b43_0 : decode cJx4a65c_addAll_f0b43 0 = .ok (.aload_n 1, 1) := by decide +kernel
theorem dJx4a65c_addAll_f0b43_1 : decode cJx4a65c_addAll_f0b43 1 = .ok (.invokeinterface 42 1, 5) := by decide +kernel
theorem dJx4a65c_addAll_f0b43_6 : decode cJx4a65c_addAll_f0b43 6 = .ok (.astore_n 2, 1) := by decide +kernel
theorem dJx4a65c_addAll_f0b43_7 : decode cJx4a65c_addAll_f0b43 7 = .ok (.aload_n 0, 1) := by decide +kernel
theorem dJx4a65c_addAll_f0b43_8 : decode cJx4a65c_addAll_f0b43 8 = .ok (.dup, 1) := by decide +kernel
theorem dJx4a65c_addAll_f0b43_9 : decode cJx4a65c_addAll_f0b43 9 = .ok (.getfield 63, 3) := by decide +kernel
theorem dJx4a65c_addAll_f0b43_12 : decode cJx4a65c_addAll_f0b43 12 = .ok (.iconst 1, 1) := by decide +kernel
theorem dJx4a65c_addAll_f0b43_13 : decode cJx4a65c_addAll_f0b43 13 = .ok (.iadd, 1) := by decide +kernel
theorem dJx4a65c_addAll_f0b43_14 : decode cJx4a65c_addAll_f0b43 14 = .ok (.putfield 63, 3) := by decide +kernel
theorem dJx4a65c_addAll_f0b43_17 : decode cJx4a65c_addAll_f0b43 17 = .ok (.aload_n 2, 1) := by decide +kernel
theorem dJx4a65c_addAll_f0b43_18 : decode cJx4a65c_addAll_f0b43 18 = .ok (.arraylength, 1) := by decide +kernel
theorem dJx4a65c_addAll_f0b43_19 : decode cJx4a65c_addAll_f0b43 19 = .ok (.istore_n 3, 1) := by decide +kernel
theorem dJx4a65c_addAll_f0b43_20 : decode cJx4a65c_addAll_f0b43 20 = .ok (.iload_n 3, 1) := by decide +kernel
theorem dJx4a65c_addAll_f0b43_21 : decode cJx4a65c_addAll_f0b43 21 = .ok (.ifCond .ne 5, 3) := by decide +kernel
theorem dJx4a65c_addAll_f0b43_24 : decode cJx4a65c_addAll_f0b43 24 = .ok (.iconst 0, 1) := by decide +kernel
theorem dJx4a65c_addAll_f0b43_25 : decode cJx4a65c_addAll_f0b43 25 = .ok (.ireturn, 1) := by decide +kernel
theorem dJx4a65c_addAll_f0b43_26 : decode cJx4a65c_addAll_f0b43 26 = .ok (.iload_n 3, 1) := by decide +kernel
theorem dJx4a65c_addAll_f0b43_27 : decode cJx4a65c_addAll_f0b43 27 = .ok (.aload_n 0, 1) := by decide +kernel
theorem dJx4a65c_addAll_f0b43_28 : decode cJx4a65c_addAll_f0b43 28 = .ok (.getfield 9, 3) := by decide +kernel
theorem dJx4a65c_addAll_f0b43_31 : decode cJx4a65c_addAll_f0b43 31 = .ok (.dup, 1) := by decide +kernel
theorem dJx4a65c_addAll_f0b43_32 : decode cJx4a65c_addAll_f0b43 32 = .ok (.astore 4, 2) := by decide +kernel
theorem dJx4a65c_addAll_f0b43_34 : decode cJx4a65c_addAll_f0b43 34 = .ok (.arraylength, 1) := by decide +kernel
theorem dJx4a65c_addAll_f0b43_35 : decode cJx4a65c_addAll_f0b43 35 = .ok (.aload_n 0, 1) := by decide +kernel
theorem dJx4a65c_addAll_f0b43_36 : decode cJx4a65c_addAll_f0b43 36 = .ok (.getfield 48, 3) := by decide +kernel
theorem dJx4a65c_addAll_f0b43_39 : decode cJx4a65c_addAll_f0b43 39 = .ok (.dup, 1) := by decide +kernel
theorem dJx4a65c_addAll_f0b43_40 : decode cJx4a65c_addAll_f0b43 40 = .ok (.istore 5, 2) := by decide +kernel
theorem dJx4a65c_addAll_f0b43_42 : decode cJx4a65c_addAll_f0b43 42 = .ok (.isub, 1) := by decide +kernel
theorem dJx4a65c_addAll_f0b43_43 : decode cJx4a65c_addAll_f0b43 43 = .ok (.if_icmp .le 13, 3) := by decide +kernel
theorem dJx4a65c_addAll_f0b43_46 : decode cJx4a65c_addAll_f0b43 46 = .ok (.aload_n 0, 1) := by decide +kernel
theorem dJx4a65c_addAll_f0b43_47 : decode cJx4a65c_addAll_f0b43 47 = .ok (.iload 5, 2) := by decide +kernel
theorem dJx4a65c_addAll_f0b43_49 : decode cJx4a65c_addAll_f0b43 49 = .ok (.iload_n 3, 1) := by decide +kernel
theorem dJx4a65c_addAll_f0b43_50 : decode cJx4a65c_addAll_f0b43 50 = .ok (.iadd, 1) := by decide +kernel
theorem dJx4a65c_addAll_f0b43_51 : decode cJx4a65c_addAll_f0b43 51 = .ok (.invokevirtual 69, 3) := by decide +kernel
theorem dJx4a65c_addAll_f0b43_54 : decode cJx4a65c_addAll_f0b43 54 = .ok (.astore 4, 2) := by decide +kernel
theorem dJx4a65c_addAll_f0b43_56 : decode cJx4a65c_addAll_f0b43 56 = .ok (.aload_n 2, 1) := by decide +kernel
theorem dJx4a65c_addAll_f0b43_57 : decode cJx4a65c_addAll_f0b43 57 = .ok (.iconst 0, 1) := by decide +kernel
theorem dJx4a65c_addAll_f0b43_58 : decode cJx4a65c_addAll_f0b43 58 = .ok (.aload 4, 2) := by decide +kernel
theorem dJx4a65c_addAll_f0b43_60 : decode cJx4a65c_addAll_f0b43 60 = .ok (.iload 5, 2) := by decide +kernel
theorem dJx4a65c_addAll_f0b43_62 : decode cJx4a65c_addAll_f0b43 62 = .ok (.iload_n 3, 1) := by decide +kernel
theorem dJx4a65c_addAll_f0b43_63 : decode cJx4a65c_addAll_f0b43 63 = .ok (.invokestatic 112, 3) := by decide +kernel
theorem dJx4a65c_addAll_f0b43_66 : decode cJx4a65c_addAll_f0b43 66 = .ok (.aload_n 0, 1) := by decide +kernel
theorem dJx4a65c_addAll_f0b43_67 : decode cJx4a65c_addAll_f0b43 67 = .ok (.iload 5, 2) := by decide +kernel
theorem dJx4a65c_addAll_f0b43_69 : decode cJx4a65c_addAll_f0b43 69 = .ok (.iload_n 3, 1) := by decide +kernel
theorem dJx4a65c_addAll_f0b43_70 : decode cJx4a65c_addAll_f0b43 70 = .ok (.iadd, 1) := by decide +kernel
theorem dJx4a65c_addAll_f0b43_71 : decode cJx4a65c_addAll_f0b43 71 = .ok (.putfield 48, 3) := by decide +kernel
theorem dJx4a65c_addAll_f0b43_74 : decode cJx4a65c_addAll_f0b43 74 = .ok (.iconst 1, 1) := by decide +kernel
theorem dJx4a65c_addAll_f0b43_75 : decode cJx4a65c_addAll_f0b43 75 = .ok (.ireturn, 1) := by decide +kernel
theorem dJ7_copyOf_1904c_0 : decode cJ7_copyOf_1904c 0 = .ok (.aload_n 0, 1) := by decide +kernel
theorem dJ7_copyOf_1904c_1 : decode cJ7_copyOf_1904c 1 = .ok (.iload_n 1, 1) := by decide +kernel
theorem dJ7_copyOf_1904c_2 : decode cJ7_copyOf_1904c 2 = .ok (.aload_n 0, 1) := by decide +kernel
theorem dJ7_copyOf_1904c_3 : decode cJ7_copyOf_1904c 3 = .ok (.invokevirtual 86, 3) := by decide +kernel
theorem dJ7_copyOf_1904c_6 : decode cJ7_copyOf_1904c 6 = .ok (.invokestatic 300, 3) := by decide +kernel
theorem dJ7_copyOf_1904c_9 : decode cJ7_copyOf_1904c 9 = .ok (.areturn, 1) := by decide +kernel
theorem dJ7_copyOf_6403c_0 : decode cJ7_copyOf_6403c 0 = .ok (.aload_n 2, 1) := by decide +kernel
theorem dJ7_copyOf_6403c_1 : decode cJ7_copyOf_6403c 1 = .ok (.ldc 110, 2) := by decide +kernel
theorem dJ7_copyOf_6403c_3 : decode cJ7_copyOf_6403c 3 = .ok (.if_acmp .ne 10, 3) := by decide +kernel
theorem dJ7_copyOf_6403c_6 : decode cJ7_copyOf_6403c 6 = .ok (.iload_n 1, 1) := by decide +kernel
theorem dJ7_copyOf_6403c_7 : decode cJ7_copyOf_6403c 7 = .ok (.anewarray 2, 3) := by decide +kernel
theorem dJ7_copyOf_6403c_10 : decode cJ7_copyOf_6403c 10 = .ok (.goto 14, 3) := by decide +kernel
theorem dJ7_copyOf_6403c_13 : decode cJ7_copyOf_6403c 13 = .ok (.aload_n 2, 1) := by decide +kernel
theorem dJ7_copyOf_6403c_14 : decode cJ7_copyOf_6403c 14 = .ok (.invokevirtual 90, 3) := by decide +kernel
theorem dJ7_copyOf_6403c_17 : decode cJ7_copyOf_6403c 17 = .ok (.iload_n 1, 1) := by decide +kernel
theorem dJ7_copyOf_6403c_18 : decode cJ7_copyOf_6403c 18 = .ok (.invokestatic 95, 3) := by decide +kernel
theorem dJ7_copyOf_6403c_21 : decode cJ7_copyOf_6403c 21 = .ok (.checkcast 110, 3) := by decide +kernel
theorem dJ7_copyOf_6403c_24 : decode cJ7_copyOf_6403c 24 = .ok (.astore_n 3, 1) := by decide +kernel
theorem dJ7_copyOf_6403c_25 : decode cJ7_copyOf_6403c 25 = .ok (.aload_n 0, 1) := by decide +kernel
theorem dJ7_copyOf_6403c_26 : decode cJ7_copyOf_6403c 26 = .ok (.iconst 0, 1) := by decide +kernel
theorem dJ7_copyOf_6403c_27 : decode cJ7_copyOf_6403c 27 = .ok (.aload_n 3, 1) := by decide +kernel
theorem dJ7_copyOf_6403c_28 : decode cJ7_copyOf_6403c 28 = .ok (.iconst 0, 1) := by decide +kernel
theorem dJ7_copyOf_6403c_29 : decode cJ7_copyOf_6403c 29 = .ok (.aload_n 0, 1) := by decide +kernel
theorem dJ7_copyOf_6403c_30 : decode cJ7_copyOf_6403c 30 = .ok (.arraylength, 1) := by decide +kernel
theorem dJ7_copyOf_6403c_31 : decode cJ7_copyOf_6403c 31 = .ok (.iload_n 1, 1) := by decide +kernel
theorem dJ7_copyOf_6403c_32 : decode cJ7_copyOf_6403c 32 = .ok (.invokestatic 304, 3) := by decide +kernel
theorem dJ7_copyOf_6403c_35 : decode cJ7_copyOf_6403c 35 = .ok (.invokestatic 150, 3) := by decide +kernel
theorem dJ7_copyOf_6403c_38 : decode cJ7_copyOf_6403c 38 = .ok (.aload_n 3, 1) := by decide +kernel
theorem dJ7_copyOf_6403c_39 : decode cJ7_copyOf_6403c 39 = .ok (.areturn, 1) := by decide +kernel
theorem dL_pump_0 : decode cL_pump 0 = .ok (.aload_n 2, 1) := by decide +kernel
theorem dL_pump_1 : decode cL_pump 1 = .ok (.iconst 0, 1) := by decide +kernel
theorem dL_pump_2 : decode cL_pump 2 = .ok (.aload_n 0, 1) := by decide +kernel
theorem dL_pump_3 : decode cL_pump 3 = .ok (.iload_n 1, 1) := by decide +kernel
theorem dL_pump_4 : decode cL_pump 4 = .ok (.invokevirtual 7, 3) := by decide +kernel
theorem dL_pump_7 : decode cL_pump 7 = .ok (.i2l, 1) := by decide +kernel
theorem dL_pump_8 : decode cL_pump 8 = .ok (.lastore, 1) := by decide +kernel
theorem dL_pump_9 : decode cL_pump 9 = .ok (.goto 9, 3) := by decide +kernel
theorem dL_pump_12 : decode cL_pump 12 = .ok (.astore_n 3, 1) := by decide +kernel
theorem dL_pump_13 : decode cL_pump 13 = .ok (.iconst 1, 1) := by decide +kernel
theorem dL_pump_14 : decode cL_pump 14 = .ok (.ireturn, 1) := by decide +kernel
theorem dL_pump_15 : decode cL_pump 15 = .ok (.astore_n 3, 1) := by decide +kernel
theorem dL_pump_16 : decode cL_pump 16 = .ok (.iconst 2, 1) := by decide +kernel
theorem dL_pump_17 : decode cL_pump 17 = .ok (.ireturn, 1) := by decide +kernel
theorem dL_pump_18 : decode cL_pump 18 = .ok (.iconst 0, 1) := by decide +kernel
theorem dL_pump_19 : decode cL_pump 19 = .ok (.ireturn, 1) := by decide +kernel
theorem dL_jet_0 : decode cL_jet 0 = .ok (.aload 5, 2) := by decide +kernel
theorem dL_jet_2 : decode cL_jet 2 = .ok (.iconst 0, 1) := by decide +kernel
theorem dL_jet_3 : decode cL_jet 3 = .ok (.aload_n 0, 1) := by decide +kernel
theorem dL_jet_4 : decode cL_jet 4 = .ok (.iload_n 1, 1) := by decide +kernel
theorem dL_jet_5 : decode cL_jet 5 = .ok (.iload_n 2, 1) := by decide +kernel
theorem dL_jet_6 : decode cL_jet 6 = .ok (.iload_n 3, 1) := by decide +kernel
theorem dL_jet_7 : decode cL_jet 7 = .ok (.iload 4, 2) := by decide +kernel
theorem dL_jet_9 : decode cL_jet 9 = .ok (.invokevirtual 17, 3) := by decide +kernel
theorem dL_jet_12 : decode cL_jet 12 = .ok (.i2l, 1) := by decide +kernel
theorem dL_jet_13 : decode cL_jet 13 = .ok (.lastore, 1) := by decide +kernel
theorem dL_jet_14 : decode cL_jet 14 = .ok (.goto 15, 3) := by decide +kernel
theorem dL_jet_17 : decode cL_jet 17 = .ok (.astore 6, 2) := by decide +kernel
theorem dL_jet_19 : decode cL_jet 19 = .ok (.iconst 1, 1) := by decide +kernel
theorem dL_jet_20 : decode cL_jet 20 = .ok (.ireturn, 1) := by decide +kernel
theorem dL_jet_21 : decode cL_jet 21 = .ok (.astore 6, 2) := by decide +kernel
theorem dL_jet_23 : decode cL_jet 23 = .ok (.iconst 2, 1) := by decide +kernel
theorem dL_jet_24 : decode cL_jet 24 = .ok (.ireturn, 1) := by decide +kernel
theorem dL_jet_25 : decode cL_jet 25 = .ok (.astore 6, 2) := by decide +kernel
theorem dL_jet_27 : decode cL_jet 27 = .ok (.iconst 3, 1) := by decide +kernel
theorem dL_jet_28 : decode cL_jet 28 = .ok (.ireturn, 1) := by decide +kernel
theorem dL_jet_29 : decode cL_jet 29 = .ok (.iconst 0, 1) := by decide +kernel
theorem dL_jet_30 : decode cL_jet 30 = .ok (.ireturn, 1) := by decide +kernel
theorem dL_figure_0 : decode cL_figure 0 = .ok (.aload_n 1, 1) := by decide +kernel
theorem dL_figure_1 : decode cL_figure 1 = .ok (.iconst 0, 1) := by decide +kernel
theorem dL_figure_2 : decode cL_figure 2 = .ok (.aload_n 0, 1) := by decide +kernel
theorem dL_figure_3 : decode cL_figure 3 = .ok (.invokevirtual 23, 3) := by decide +kernel
theorem dL_figure_6 : decode cL_figure 6 = .ok (.i2l, 1) := by decide +kernel
theorem dL_figure_7 : decode cL_figure 7 = .ok (.lastore, 1) := by decide +kernel
theorem dL_figure_8 : decode cL_figure 8 = .ok (.goto 6, 3) := by decide +kernel
theorem dL_figure_11 : decode cL_figure 11 = .ok (.astore_n 2, 1) := by decide +kernel
theorem dL_figure_12 : decode cL_figure 12 = .ok (.iconst 1, 1) := by decide +kernel
theorem dL_figure_13 : decode cL_figure 13 = .ok (.ireturn, 1) := by decide +kernel
theorem dL_figure_14 : decode cL_figure 14 = .ok (.iconst 0, 1) := by decide +kernel
theorem dL_figure_15 : decode cL_figure 15 = .ok (.ireturn, 1) := by decide +kernel
theorem dL_step_0 : decode cL_step 0 = .ok (.aload 5, 2) := by decide +kernel
theorem dL_step_2 : decode cL_step 2 = .ok (.iconst 0, 1) := by decide +kernel
theorem dL_step_3 : decode cL_step 3 = .ok (.aload_n 0, 1) := by decide +kernel
theorem dL_step_4 : decode cL_step 4 = .ok (.iload_n 1, 1) := by decide +kernel
theorem dL_step_5 : decode cL_step 5 = .ok (.iload_n 2, 1) := by decide +kernel
theorem dL_step_6 : decode cL_step 6 = .ok (.iload_n 3, 1) := by decide +kernel
theorem dL_step_7 : decode cL_step 7 = .ok (.iload 4, 2) := by decide +kernel
theorem dL_step_9 : decode cL_step 9 = .ok (.invokevirtual 27, 3) := by decide +kernel
theorem dL_step_12 : decode cL_step 12 = .ok (.i2l, 1) := by decide +kernel
theorem dL_step_13 : decode cL_step 13 = .ok (.lastore, 1) := by decide +kernel
theorem dL_step_14 : decode cL_step 14 = .ok (.goto 15, 3) := by decide +kernel
theorem dL_step_17 : decode cL_step 17 = .ok (.astore 6, 2) := by decide +kernel
theorem dL_step_19 : decode cL_step 19 = .ok (.iconst 1, 1) := by decide +kernel
theorem dL_step_20 : decode cL_step 20 = .ok (.ireturn, 1) := by decide +kernel
theorem dL_step_21 : decode cL_step 21 = .ok (.astore 6, 2) := by decide +kernel
theorem dL_step_23 : decode cL_step 23 = .ok (.iconst 2, 1) := by decide +kernel
theorem dL_step_24 : decode cL_step 24 = .ok (.ireturn, 1) := by decide +kernel
theorem dL_step_25 : decode cL_step 25 = .ok (.astore 6, 2) := by decide +kernel
theorem dL_step_27 : decode cL_step 27 = .ok (.iconst 3, 1) := by decide +kernel
theorem dL_step_28 : decode cL_step 28 = .ok (.ireturn, 1) := by decide +kernel
theorem dL_step_29 : decode cL_step 29 = .ok (.iconst 0, 1) := by decide +kernel
theorem dL_step_30 : decode cL_step 30 = .ok (.ireturn, 1) := by decide +kernel
theorem dL_wind_0 : decode cL_wind 0 = .ok (.aload_n 3, 1) := by decide +kernel
theorem dL_wind_1 : decode cL_wind 1 = .ok (.iconst 0, 1) := by decide +kernel
theorem dL_wind_2 : decode cL_wind 2 = .ok (.aload_n 0, 1) := by decide +kernel
theorem dL_wind_3 : decode cL_wind 3 = .ok (.iload_n 1, 1) := by decide +kernel
theorem dL_wind_4 : decode cL_wind 4 = .ok (.iload_n 2, 1) := by decide +kernel
theorem dL_wind_5 : decode cL_wind 5 = .ok (.invokevirtual 30, 3) := by decide +kernel
theorem dL_wind_8 : decode cL_wind 8 = .ok (.i2l, 1) := by decide +kernel
theorem dL_wind_9 : decode cL_wind 9 = .ok (.lastore, 1) := by decide +kernel
theorem dL_wind_10 : decode cL_wind 10 = .ok (.goto 7, 3) := by decide +kernel
theorem dL_wind_13 : decode cL_wind 13 = .ok (.astore 4, 2) := by decide +kernel
theorem dL_wind_15 : decode cL_wind 15 = .ok (.iconst 1, 1) := by decide +kernel
theorem dL_wind_16 : decode cL_wind 16 = .ok (.ireturn, 1) := by decide +kernel
theorem dL_wind_17 : decode cL_wind 17 = .ok (.iconst 0, 1) := by decide +kernel
theorem dL_wind_18 : decode cL_wind 18 = .ok (.ireturn, 1) := by decide +kernel
theorem dL_valve_0 : decode cL_valve 0 = .ok (.aload_n 3, 1) := by decide +kernel
theorem dL_valve_1 : decode cL_valve 1 = .ok (.iconst 0, 1) := by decide +kernel
theorem dL_valve_2 : decode cL_valve 2 = .ok (.aload_n 0, 1) := by decide +kernel
theorem dL_valve_3 : decode cL_valve 3 = .ok (.iload_n 1, 1) := by decide +kernel
theorem dL_valve_4 : decode cL_valve 4 = .ok (.iload_n 2, 1) := by decide +kernel
theorem dL_valve_5 : decode cL_valve 5 = .ok (.invokevirtual 34, 3) := by decide +kernel
theorem dL_valve_8 : decode cL_valve 8 = .ok (.i2l, 1) := by decide +kernel
theorem dL_valve_9 : decode cL_valve 9 = .ok (.lastore, 1) := by decide +kernel
theorem dL_valve_10 : decode cL_valve 10 = .ok (.goto 15, 3) := by decide +kernel
theorem dL_valve_13 : decode cL_valve 13 = .ok (.astore 4, 2) := by decide +kernel
theorem dL_valve_15 : decode cL_valve 15 = .ok (.iconst 1, 1) := by decide +kernel
theorem dL_valve_16 : decode cL_valve 16 = .ok (.ireturn, 1) := by decide +kernel
theorem dL_valve_17 : decode cL_valve 17 = .ok (.astore 4, 2) := by decide +kernel
theorem dL_valve_19 : decode cL_valve 19 = .ok (.iconst 2, 1) := by decide +kernel
theorem dL_valve_20 : decode cL_valve 20 = .ok (.ireturn, 1) := by decide +kernel
theorem dL_valve_21 : decode cL_valve 21 = .ok (.astore 4, 2) := by decide +kernel
theorem dL_valve_23 : decode cL_valve 23 = .ok (.iconst 3, 1) := by decide +kernel
theorem dL_valve_24 : decode cL_valve 24 = .ok (.ireturn, 1) := by decide +kernel
theorem dL_valve_25 : decode cL_valve 25 = .ok (.iconst 0, 1) := by decide +kernel
theorem dL_valve_26 : decode cL_valve 26 = .ok (.ireturn, 1) := by decide +kernel
theorem dL_setting_0 : decode cL_setting 0 = .ok (.aload_n 3, 1) := by decide +kernel
theorem dL_setting_1 : decode cL_setting 1 = .ok (.iconst 0, 1) := by decide +kernel
theorem dL_setting_2 : decode cL_setting 2 = .ok (.aload_n 0, 1) := by decide +kernel
theorem dL_setting_3 : decode cL_setting 3 = .ok (.iload_n 1, 1) := by decide +kernel
theorem dL_setting_4 : decode cL_setting 4 = .ok (.iload_n 2, 1) := by decide +kernel
theorem dL_setting_5 : decode cL_setting 5 = .ok (.invokevirtual 37, 3) := by decide +kernel
theorem dL_setting_8 : decode cL_setting 8 = .ok (.i2l, 1) := by decide +kernel
theorem dL_setting_9 : decode cL_setting 9 = .ok (.lastore, 1) := by decide +kernel
theorem dL_setting_10 : decode cL_setting 10 = .ok (.goto 15, 3) := by decide +kernel
theorem dL_setting_13 : decode cL_setting 13 = .ok (.astore 4, 2) := by decide +kernel
theorem dL_setting_15 : decode cL_setting 15 = .ok (.iconst 1, 1) := by decide +kernel
theorem dL_setting_16 : decode cL_setting 16 = .ok (.ireturn, 1) := by decide +kernel
theorem dL_setting_17 : decode cL_setting 17 = .ok (.astore 4, 2) := by decide +kernel
theorem dL_setting_19 : decode cL_setting 19 = .ok (.iconst 2, 1) := by decide +kernel
theorem dL_setting_20 : decode cL_setting 20 = .ok (.ireturn, 1) := by decide +kernel
theorem dL_setting_21 : decode cL_setting 21 = .ok (.astore 4, 2) := by decide +kernel
theorem dL_setting_23 : decode cL_setting 23 = .ok (.iconst 3, 1) := by decide +kernel
theorem dL_setting_24 : decode cL_setting 24 = .ok (.ireturn, 1) := by decide +kernel
theorem dL_setting_25 : decode cL_setting 25 = .ok (.iconst 0, 1) := by decide +kernel
theorem dL_setting_26 : decode cL_setting 26 = .ok (.ireturn, 1) := by decide +kernel
theorem dL_reset_0 : decode cL_reset 0 = .ok (.aload_n 2, 1) := by decide +kernel
theorem dL_reset_1 : decode cL_reset 1 = .ok (.iconst 0, 1) := by decide +kernel
theorem dL_reset_2 : decode cL_reset 2 = .ok (.aload_n 0, 1) := by decide +kernel
theorem dL_reset_3 : decode cL_reset 3 = .ok (.iload_n 1, 1) := by decide +kernel
theorem dL_reset_4 : decode cL_reset 4 = .ok (.invokevirtual 40, 3) := by decide +kernel
theorem dL_reset_7 : decode cL_reset 7 = .ok (.i2l, 1) := by decide +kernel
theorem dL_reset_8 : decode cL_reset 8 = .ok (.lastore, 1) := by decide +kernel
theorem dL_reset_9 : decode cL_reset 9 = .ok (.goto 9, 3) := by decide +kernel
theorem dL_reset_12 : decode cL_reset 12 = .ok (.astore_n 3, 1) := by decide +kernel
theorem dL_reset_13 : decode cL_reset 13 = .ok (.iconst 1, 1) := by decide +kernel
theorem dL_reset_14 : decode cL_reset 14 = .ok (.ireturn, 1) := by decide +kernel
theorem dL_reset_15 : decode cL_reset 15 = .ok (.astore_n 3, 1) := by decide +kernel
theorem dL_reset_16 : decode cL_reset 16 = .ok (.iconst 2, 1) := by decide +kernel
theorem dL_reset_17 : decode cL_reset 17 = .ok (.ireturn, 1) := by decide +kernel
theorem dL_reset_18 : decode cL_reset 18 = .ok (.iconst 0, 1) := by decide +kernel
theorem dL_reset_19 : decode cL_reset 19 = .ok (.ireturn, 1) := by decide +kernel
theorem dL_lamp_0 : decode cL_lamp 0 = .ok (.aload_n 3, 1) := by decide +kernel
theorem dL_lamp_1 : decode cL_lamp 1 = .ok (.iconst 0, 1) := by decide +kernel
theorem dL_lamp_2 : decode cL_lamp 2 = .ok (.aload_n 0, 1) := by decide +kernel
theorem dL_lamp_3 : decode cL_lamp 3 = .ok (.iload_n 1, 1) := by decide +kernel
theorem dL_lamp_4 : decode cL_lamp 4 = .ok (.iload_n 2, 1) := by decide +kernel
theorem dL_lamp_5 : decode cL_lamp 5 = .ok (.invokevirtual 43, 3) := by decide +kernel
theorem dL_lamp_8 : decode cL_lamp 8 = .ok (.ifCond .eq 7, 3) := by decide +kernel
theorem dL_lamp_11 : decode cL_lamp 11 = .ok (.lconst 1, 1) := by decide +kernel
theorem dL_lamp_12 : decode cL_lamp 12 = .ok (.goto 4, 3) := by decide +kernel
theorem dL_lamp_15 : decode cL_lamp 15 = .ok (.lconst 0, 1) := by decide +kernel
theorem dL_lamp_16 : decode cL_lamp 16 = .ok (.lastore, 1) := by decide +kernel
theorem dL_lamp_17 : decode cL_lamp 17 = .ok (.goto 7, 3) := by decide +kernel
theorem dL_lamp_20 : decode cL_lamp 20 = .ok (.astore 4, 2) := by decide +kernel
theorem dL_lamp_22 : decode cL_lamp 22 = .ok (.iconst 1, 1) := by decide +kernel
theorem dL_lamp_23 : decode cL_lamp 23 = .ok (.ireturn, 1) := by decide +kernel
theorem dL_lamp_24 : decode cL_lamp 24 = .ok (.iconst 0, 1) := by decide +kernel
theorem dL_lamp_25 : decode cL_lamp 25 = .ok (.ireturn, 1) := by decide +kernel
theorem dL_fault_0 : decode cL_fault 0 = .ok (.aload 4, 2) := by decide +kernel
theorem dL_fault_2 : decode cL_fault 2 = .ok (.iconst 0, 1) := by decide +kernel
theorem dL_fault_3 : decode cL_fault 3 = .ok (.aload_n 0, 1) := by decide +kernel
theorem dL_fault_4 : decode cL_fault 4 = .ok (.iload_n 1, 1) := by decide +kernel
theorem dL_fault_5 : decode cL_fault 5 = .ok (.iload_n 2, 1) := by decide +kernel
theorem dL_fault_6 : decode cL_fault 6 = .ok (.iload_n 3, 1) := by decide +kernel
theorem dL_fault_7 : decode cL_fault 7 = .ok (.invokevirtual 47, 3) := by decide +kernel
theorem dL_fault_10 : decode cL_fault 10 = .ok (.ifCond .eq 7, 3) := by decide +kernel
theorem dL_fault_13 : decode cL_fault 13 = .ok (.lconst 1, 1) := by decide +kernel
theorem dL_fault_14 : decode cL_fault 14 = .ok (.goto 4, 3) := by decide +kernel
theorem dL_fault_17 : decode cL_fault 17 = .ok (.lconst 0, 1) := by decide +kernel
theorem dL_fault_18 : decode cL_fault 18 = .ok (.lastore, 1) := by decide +kernel
theorem dL_fault_19 : decode cL_fault 19 = .ok (.goto 7, 3) := by decide +kernel
theorem dL_fault_22 : decode cL_fault 22 = .ok (.astore 5, 2) := by decide +kernel
theorem dL_fault_24 : decode cL_fault 24 = .ok (.iconst 1, 1) := by decide +kernel
theorem dL_fault_25 : decode cL_fault 25 = .ok (.ireturn, 1) := by decide +kernel
theorem dL_fault_26 : decode cL_fault 26 = .ok (.iconst 0, 1) := by decide +kernel
theorem dL_fault_27 : decode cL_fault 27 = .ok (.ireturn, 1) := by decide +kernel
theorem dL_fill_0 : decode cL_fill 0 = .ok (.aload_n 2, 1) := by decide +kernel
theorem dL_fill_1 : decode cL_fill 1 = .ok (.iconst 0, 1) := by decide +kernel
theorem dL_fill_2 : decode cL_fill 2 = .ok (.aload_n 0, 1) := by decide +kernel
theorem dL_fill_3 : decode cL_fill 3 = .ok (.iload_n 1, 1) := by decide +kernel
theorem dL_fill_4 : decode cL_fill 4 = .ok (.invokevirtual 51, 3) := by decide +kernel
theorem dL_fill_7 : decode cL_fill 7 = .ok (.i2l, 1) := by decide +kernel
theorem dL_fill_8 : decode cL_fill 8 = .ok (.lastore, 1) := by decide +kernel
theorem dL_fill_9 : decode cL_fill 9 = .ok (.goto 6, 3) := by decide +kernel
theorem dL_fill_12 : decode cL_fill 12 = .ok (.astore_n 3, 1) := by decide +kernel
theorem dL_fill_13 : decode cL_fill 13 = .ok (.iconst 1, 1) := by decide +kernel
theorem dL_fill_14 : decode cL_fill 14 = .ok (.ireturn, 1) := by decide +kernel
theorem dL_fill_15 : decode cL_fill 15 = .ok (.iconst 0, 1) := by decide +kernel
theorem dL_fill_16 : decode cL_fill 16 = .ok (.ireturn, 1) := by decide +kernel
theorem dL_call_0 : decode cL_call 0 = .ok (.aload_n 3, 1) := by decide +kernel
theorem dL_call_1 : decode cL_call 1 = .ok (.iconst 0, 1) := by decide +kernel
theorem dL_call_2 : decode cL_call 2 = .ok (.aload_n 0, 1) := by decide +kernel
theorem dL_call_3 : decode cL_call 3 = .ok (.iload_n 1, 1) := by decide +kernel
theorem dL_call_4 : decode cL_call 4 = .ok (.iload_n 2, 1) := by decide +kernel
theorem dL_call_5 : decode cL_call 5 = .ok (.invokevirtual 54, 3) := by decide +kernel
theorem dL_call_8 : decode cL_call 8 = .ok (.i2l, 1) := by decide +kernel
theorem dL_call_9 : decode cL_call 9 = .ok (.lastore, 1) := by decide +kernel
theorem dL_call_10 : decode cL_call 10 = .ok (.goto 15, 3) := by decide +kernel
theorem dL_call_13 : decode cL_call 13 = .ok (.astore 4, 2) := by decide +kernel
theorem dL_call_15 : decode cL_call 15 = .ok (.iconst 1, 1) := by decide +kernel
theorem dL_call_16 : decode cL_call 16 = .ok (.ireturn, 1) := by decide +kernel
theorem dL_call_17 : decode cL_call 17 = .ok (.astore 4, 2) := by decide +kernel
theorem dL_call_19 : decode cL_call 19 = .ok (.iconst 2, 1) := by decide +kernel
theorem dL_call_20 : decode cL_call 20 = .ok (.ireturn, 1) := by decide +kernel
theorem dL_call_21 : decode cL_call 21 = .ok (.astore 4, 2) := by decide +kernel
theorem dL_call_23 : decode cL_call 23 = .ok (.iconst 3, 1) := by decide +kernel
theorem dL_call_24 : decode cL_call 24 = .ok (.ireturn, 1) := by decide +kernel
theorem dL_call_25 : decode cL_call 25 = .ok (.iconst 0, 1) := by decide +kernel
theorem dL_call_26 : decode cL_call 26 = .ok (.ireturn, 1) := by decide +kernel
theorem dL_pass_0 : decode cL_pass 0 = .ok (.aload_n 2, 1) := by decide +kernel
theorem dL_pass_1 : decode cL_pass 1 = .ok (.iconst 0, 1) := by decide +kernel
theorem dL_pass_2 : decode cL_pass 2 = .ok (.aload_n 0, 1) := by decide +kernel
theorem dL_pass_3 : decode cL_pass 3 = .ok (.iload_n 1, 1) := by decide +kernel
theorem dL_pass_4 : decode cL_pass 4 = .ok (.invokevirtual 57, 3) := by decide +kernel
theorem dL_pass_7 : decode cL_pass 7 = .ok (.i2l, 1) := by decide +kernel
theorem dL_pass_8 : decode cL_pass 8 = .ok (.lastore, 1) := by decide +kernel
theorem dL_pass_9 : decode cL_pass 9 = .ok (.goto 9, 3) := by decide +kernel
theorem dL_pass_12 : decode cL_pass 12 = .ok (.astore_n 3, 1) := by decide +kernel
theorem dL_pass_13 : decode cL_pass 13 = .ok (.iconst 1, 1) := by decide +kernel
theorem dL_pass_14 : decode cL_pass 14 = .ok (.ireturn, 1) := by decide +kernel
theorem dL_pass_15 : decode cL_pass 15 = .ok (.astore_n 3, 1) := by decide +kernel
theorem dL_pass_16 : decode cL_pass 16 = .ok (.iconst 2, 1) := by decide +kernel
theorem dL_pass_17 : decode cL_pass 17 = .ok (.ireturn, 1) := by decide +kernel
theorem dL_pass_18 : decode cL_pass 18 = .ok (.iconst 0, 1) := by decide +kernel
theorem dL_pass_19 : decode cL_pass 19 = .ok (.ireturn, 1) := by decide +kernel
theorem dL_ofPump_0 : decode cL_ofPump 0 = .ok (.aload_n 3, 1) := by decide +kernel
theorem dL_ofPump_1 : decode cL_ofPump 1 = .ok (.iconst 0, 1) := by decide +kernel
theorem dL_ofPump_2 : decode cL_ofPump 2 = .ok (.aload_n 0, 1) := by decide +kernel
theorem dL_ofPump_3 : decode cL_ofPump 3 = .ok (.iload_n 1, 1) := by decide +kernel
theorem dL_ofPump_4 : decode cL_ofPump 4 = .ok (.iload_n 2, 1) := by decide +kernel
theorem dL_ofPump_5 : decode cL_ofPump 5 = .ok (.invokevirtual 60, 3) := by decide +kernel
theorem dL_ofPump_8 : decode cL_ofPump 8 = .ok (.i2l, 1) := by decide +kernel
theorem dL_ofPump_9 : decode cL_ofPump 9 = .ok (.lastore, 1) := by decide +kernel
theorem dL_ofPump_10 : decode cL_ofPump 10 = .ok (.goto 11, 3) := by decide +kernel
theorem dL_ofPump_13 : decode cL_ofPump 13 = .ok (.astore 4, 2) := by decide +kernel
theorem dL_ofPump_15 : decode cL_ofPump 15 = .ok (.iconst 1, 1) := by decide +kernel
theorem dL_ofPump_16 : decode cL_ofPump 16 = .ok (.ireturn, 1) := by decide +kernel
theorem dL_ofPump_17 : decode cL_ofPump 17 = .ok (.astore 4, 2) := by decide +kernel
theorem dL_ofPump_19 : decode cL_ofPump 19 = .ok (.iconst 2, 1) := by decide +kernel
theorem dL_ofPump_20 : decode cL_ofPump 20 = .ok (.ireturn, 1) := by decide +kernel
theorem dL_ofPump_21 : decode cL_ofPump 21 = .ok (.iconst 0, 1) := by decide +kernel
theorem dL_ofPump_22 : decode cL_ofPump 22 = .ok (.ireturn, 1) := by decide +kernel
theorem dL_ofJet_0 : decode cL_ofJet 0 = .ok (.aload_n 3, 1) := by decide +kernel
theorem dL_ofJet_1 : decode cL_ofJet 1 = .ok (.iconst 0, 1) := by decide +kernel
theorem dL_ofJet_2 : decode cL_ofJet 2 = .ok (.aload_n 0, 1) := by decide +kernel
theorem dL_ofJet_3 : decode cL_ofJet 3 = .ok (.iload_n 1, 1) := by decide +kernel
theorem dL_ofJet_4 : decode cL_ofJet 4 = .ok (.iload_n 2, 1) := by decide +kernel
theorem dL_ofJet_5 : decode cL_ofJet 5 = .ok (.invokevirtual 63, 3) := by decide +kernel
theorem dL_ofJet_8 : decode cL_ofJet 8 = .ok (.i2l, 1) := by decide +kernel
theorem dL_ofJet_9 : decode cL_ofJet 9 = .ok (.lastore, 1) := by decide +kernel
theorem dL_ofJet_10 : decode cL_ofJet 10 = .ok (.goto 11, 3) := by decide +kernel
theorem dL_ofJet_13 : decode cL_ofJet 13 = .ok (.astore 4, 2) := by decide +kernel
theorem dL_ofJet_15 : decode cL_ofJet 15 = .ok (.iconst 1, 1) := by decide +kernel
theorem dL_ofJet_16 : decode cL_ofJet 16 = .ok (.ireturn, 1) := by decide +kernel
theorem dL_ofJet_17 : decode cL_ofJet 17 = .ok (.astore 4, 2) := by decide +kernel
theorem dL_ofJet_19 : decode cL_ofJet 19 = .ok (.iconst 2, 1) := by decide +kernel
theorem dL_ofJet_20 : decode cL_ofJet 20 = .ok (.ireturn, 1) := by decide +kernel
theorem dL_ofJet_21 : decode cL_ofJet 21 = .ok (.iconst 0, 1) := by decide +kernel
theorem dL_ofJet_22 : decode cL_ofJet 22 = .ok (.ireturn, 1) := by decide +kernel
theorem dL_falls_0 : decode cL_falls 0 = .ok (.aload_n 2, 1) := by decide +kernel
theorem dL_falls_1 : decode cL_falls 1 = .ok (.iconst 0, 1) := by decide +kernel
theorem dL_falls_2 : decode cL_falls 2 = .ok (.aload_n 0, 1) := by decide +kernel
theorem dL_falls_3 : decode cL_falls 3 = .ok (.iload_n 1, 1) := by decide +kernel
theorem dL_falls_4 : decode cL_falls 4 = .ok (.invokevirtual 66, 3) := by decide +kernel
theorem dL_falls_7 : decode cL_falls 7 = .ok (.i2l, 1) := by decide +kernel
theorem dL_falls_8 : decode cL_falls 8 = .ok (.lastore, 1) := by decide +kernel
theorem dL_falls_9 : decode cL_falls 9 = .ok (.goto 6, 3) := by decide +kernel
theorem dL_falls_12 : decode cL_falls 12 = .ok (.astore_n 3, 1) := by decide +kernel
theorem dL_falls_13 : decode cL_falls 13 = .ok (.iconst 1, 1) := by decide +kernel
theorem dL_falls_14 : decode cL_falls 14 = .ok (.ireturn, 1) := by decide +kernel
theorem dL_falls_15 : decode cL_falls 15 = .ok (.iconst 0, 1) := by decide +kernel
theorem dL_falls_16 : decode cL_falls 16 = .ok (.ireturn, 1) := by decide +kernel
theorem dL_open_0 : decode cL_open 0 = .ok (.aload_n 2, 1) := by decide +kernel
theorem dL_open_1 : decode cL_open 1 = .ok (.iconst 0, 1) := by decide +kernel
theorem dL_open_2 : decode cL_open 2 = .ok (.aload_n 0, 1) := by decide +kernel
theorem dL_open_3 : decode cL_open 3 = .ok (.iload_n 1, 1) := by decide +kernel
theorem dL_open_4 : decode cL_open 4 = .ok (.invokevirtual 69, 3) := by decide +kernel
theorem dL_open_7 : decode cL_open 7 = .ok (.i2l, 1) := by decide +kernel
theorem dL_open_8 : decode cL_open 8 = .ok (.lastore, 1) := by decide +kernel
theorem dL_open_9 : decode cL_open 9 = .ok (.goto 6, 3) := by decide +kernel
theorem dL_open_12 : decode cL_open 12 = .ok (.astore_n 3, 1) := by decide +kernel
theorem dL_open_13 : decode cL_open 13 = .ok (.iconst 1, 1) := by decide +kernel
theorem dL_open_14 : decode cL_open 14 = .ok (.ireturn, 1) := by decide +kernel
theorem dL_open_15 : decode cL_open 15 = .ok (.iconst 0, 1) := by decide +kernel
theorem dL_open_16 : decode cL_open 16 = .ok (.ireturn, 1) := by decide +kernel
theorem dL_many_0 : decode cL_many 0 = .ok (.aload_n 2, 1) := by decide +kernel
theorem dL_many_1 : decode cL_many 1 = .ok (.iconst 0, 1) := by decide +kernel
theorem dL_many_2 : decode cL_many 2 = .ok (.aload_n 0, 1) := by decide +kernel
theorem dL_many_3 : decode cL_many 3 = .ok (.iload_n 1, 1) := by decide +kernel
theorem dL_many_4 : decode cL_many 4 = .ok (.invokevirtual 72, 3) := by decide +kernel
theorem dL_many_7 : decode cL_many 7 = .ok (.i2l, 1) := by decide +kernel
theorem dL_many_8 : decode cL_many 8 = .ok (.lastore, 1) := by decide +kernel
theorem dL_many_9 : decode cL_many 9 = .ok (.goto 6, 3) := by decide +kernel
theorem dL_many_12 : decode cL_many 12 = .ok (.astore_n 3, 1) := by decide +kernel
theorem dL_many_13 : decode cL_many 13 = .ok (.iconst 1, 1) := by decide +kernel
theorem dL_many_14 : decode cL_many 14 = .ok (.ireturn, 1) := by decide +kernel
theorem dL_many_15 : decode cL_many 15 = .ok (.iconst 0, 1) := by decide +kernel
theorem dL_many_16 : decode cL_many 16 = .ok (.ireturn, 1) := by decide +kernel
theorem dL_heightIn_0 : decode cL_heightIn 0 = .ok (.aload_n 3, 1) := by decide +kernel
theorem dL_heightIn_1 : decode cL_heightIn 1 = .ok (.iconst 0, 1) := by decide +kernel
theorem dL_heightIn_2 : decode cL_heightIn 2 = .ok (.aload_n 0, 1) := by decide +kernel
theorem dL_heightIn_3 : decode cL_heightIn 3 = .ok (.iload_n 1, 1) := by decide +kernel
theorem dL_heightIn_4 : decode cL_heightIn 4 = .ok (.iload_n 2, 1) := by decide +kernel
theorem dL_heightIn_5 : decode cL_heightIn 5 = .ok (.invokevirtual 75, 3) := by decide +kernel
theorem dL_heightIn_8 : decode cL_heightIn 8 = .ok (.i2l, 1) := by decide +kernel
theorem dL_heightIn_9 : decode cL_heightIn 9 = .ok (.lastore, 1) := by decide +kernel
theorem dL_heightIn_10 : decode cL_heightIn 10 = .ok (.goto 11, 3) := by decide +kernel
theorem dL_heightIn_13 : decode cL_heightIn 13 = .ok (.astore 4, 2) := by decide +kernel
theorem dL_heightIn_15 : decode cL_heightIn 15 = .ok (.iconst 1, 1) := by decide +kernel
theorem dL_heightIn_16 : decode cL_heightIn 16 = .ok (.ireturn, 1) := by decide +kernel
theorem dL_heightIn_17 : decode cL_heightIn 17 = .ok (.astore 4, 2) := by decide +kernel
theorem dL_heightIn_19 : decode cL_heightIn 19 = .ok (.iconst 2, 1) := by decide +kernel
theorem dL_heightIn_20 : decode cL_heightIn 20 = .ok (.ireturn, 1) := by decide +kernel
theorem dL_heightIn_21 : decode cL_heightIn 21 = .ok (.iconst 0, 1) := by decide +kernel
theorem dL_heightIn_22 : decode cL_heightIn 22 = .ok (.ireturn, 1) := by decide +kernel
theorem dL_settingFor_0 : decode cL_settingFor 0 = .ok (.aload_n 3, 1) := by decide +kernel
theorem dL_settingFor_1 : decode cL_settingFor 1 = .ok (.iconst 0, 1) := by decide +kernel
theorem dL_settingFor_2 : decode cL_settingFor 2 = .ok (.aload_n 0, 1) := by decide +kernel
theorem dL_settingFor_3 : decode cL_settingFor 3 = .ok (.iload_n 1, 1) := by decide +kernel
theorem dL_settingFor_4 : decode cL_settingFor 4 = .ok (.iload_n 2, 1) := by decide +kernel
theorem dL_settingFor_5 : decode cL_settingFor 5 = .ok (.invokevirtual 78, 3) := by decide +kernel
theorem dL_settingFor_8 : decode cL_settingFor 8 = .ok (.i2l, 1) := by decide +kernel
theorem dL_settingFor_9 : decode cL_settingFor 9 = .ok (.lastore, 1) := by decide +kernel
theorem dL_settingFor_10 : decode cL_settingFor 10 = .ok (.goto 11, 3) := by decide +kernel
theorem dL_settingFor_13 : decode cL_settingFor 13 = .ok (.astore 4, 2) := by decide +kernel
theorem dL_settingFor_15 : decode cL_settingFor 15 = .ok (.iconst 1, 1) := by decide +kernel
theorem dL_settingFor_16 : decode cL_settingFor 16 = .ok (.ireturn, 1) := by decide +kernel
theorem dL_settingFor_17 : decode cL_settingFor 17 = .ok (.astore 4, 2) := by decide +kernel
theorem dL_settingFor_19 : decode cL_settingFor 19 = .ok (.iconst 2, 1) := by decide +kernel
theorem dL_settingFor_20 : decode cL_settingFor 20 = .ok (.ireturn, 1) := by decide +kernel
theorem dL_settingFor_21 : decode cL_settingFor 21 = .ok (.iconst 0, 1) := by decide +kernel
theorem dL_settingFor_22 : decode cL_settingFor 22 = .ok (.ireturn, 1) := by decide +kernel
theorem dL_leadFor_0 : decode cL_leadFor 0 = .ok (.aload_n 3, 1) := by decide +kernel
theorem dL_leadFor_1 : decode cL_leadFor 1 = .ok (.iconst 0, 1) := by decide +kernel
theorem dL_leadFor_2 : decode cL_leadFor 2 = .ok (.aload_n 0, 1) := by decide +kernel
theorem dL_leadFor_3 : decode cL_leadFor 3 = .ok (.iload_n 1, 1) := by decide +kernel
theorem dL_leadFor_4 : decode cL_leadFor 4 = .ok (.iload_n 2, 1) := by decide +kernel
theorem dL_leadFor_5 : decode cL_leadFor 5 = .ok (.invokevirtual 81, 3) := by decide +kernel
theorem dL_leadFor_8 : decode cL_leadFor 8 = .ok (.i2l, 1) := by decide +kernel
theorem dL_leadFor_9 : decode cL_leadFor 9 = .ok (.lastore, 1) := by decide +kernel
theorem dL_leadFor_10 : decode cL_leadFor 10 = .ok (.goto 11, 3) := by decide +kernel
theorem dL_leadFor_13 : decode cL_leadFor 13 = .ok (.astore 4, 2) := by decide +kernel
theorem dL_leadFor_15 : decode cL_leadFor 15 = .ok (.iconst 1, 1) := by decide +kernel
theorem dL_leadFor_16 : decode cL_leadFor 16 = .ok (.ireturn, 1) := by decide +kernel
theorem dL_leadFor_17 : decode cL_leadFor 17 = .ok (.astore 4, 2) := by decide +kernel
theorem dL_leadFor_19 : decode cL_leadFor 19 = .ok (.iconst 2, 1) := by decide +kernel
theorem dL_leadFor_20 : decode cL_leadFor 20 = .ok (.ireturn, 1) := by decide +kernel
theorem dL_leadFor_21 : decode cL_leadFor 21 = .ok (.iconst 0, 1) := by decide +kernel
theorem dL_leadFor_22 : decode cL_leadFor 22 = .ok (.ireturn, 1) := by decide +kernel
theorem dL_would_0 : decode cL_would 0 = .ok (.aload_n 3, 1) := by decide +kernel
theorem dL_would_1 : decode cL_would 1 = .ok (.iconst 0, 1) := by decide +kernel
theorem dL_would_2 : decode cL_would 2 = .ok (.aload_n 0, 1) := by decide +kernel
theorem dL_would_3 : decode cL_would 3 = .ok (.iload_n 1, 1) := by decide +kernel
theorem dL_would_4 : decode cL_would 4 = .ok (.iload_n 2, 1) := by decide +kernel
theorem dL_would_5 : decode cL_would 5 = .ok (.invokevirtual 84, 3) := by decide +kernel
theorem dL_would_8 : decode cL_would 8 = .ok (.i2l, 1) := by decide +kernel
theorem dL_would_9 : decode cL_would 9 = .ok (.lastore, 1) := by decide +kernel
theorem dL_would_10 : decode cL_would 10 = .ok (.goto 7, 3) := by decide +kernel
theorem dL_would_13 : decode cL_would 13 = .ok (.astore 4, 2) := by decide +kernel
theorem dL_would_15 : decode cL_would 15 = .ok (.iconst 1, 1) := by decide +kernel
theorem dL_would_16 : decode cL_would 16 = .ok (.ireturn, 1) := by decide +kernel
theorem dL_would_17 : decode cL_would 17 = .ok (.iconst 0, 1) := by decide +kernel
theorem dL_would_18 : decode cL_would 18 = .ok (.ireturn, 1) := by decide +kernel
theorem dL_law_0 : decode cL_law 0 = .ok (.new 8, 3) := by decide +kernel
theorem dL_law_3 : decode cL_law 3 = .ok (.dup, 1) := by decide +kernel
theorem dL_law_4 : decode cL_law 4 = .ok (.invokespecial 87, 3) := by decide +kernel
theorem dL_law_7 : decode cL_law 7 = .ok (.astore_n 1, 1) := by decide +kernel
theorem dL_law_8 : decode cL_law 8 = .ok (.new 88, 3) := by decide +kernel
theorem dL_law_11 : decode cL_law 11 = .ok (.dup, 1) := by decide +kernel
theorem dL_law_12 : decode cL_law 12 = .ok (.invokespecial 90, 3) := by decide +kernel
theorem dL_law_15 : decode cL_law 15 = .ok (.astore_n 2, 1) := by decide +kernel
theorem dL_law_16 : decode cL_law 16 = .ok (.iconst 1, 1) := by decide +kernel
theorem dL_law_17 : decode cL_law 17 = .ok (.newarray .long, 2) := by decide +kernel
theorem dL_law_19 : decode cL_law 19 = .ok (.astore_n 3, 1) := by decide +kernel
theorem dL_law_20 : decode cL_law 20 = .ok (.iconst 0, 1) := by decide +kernel
theorem dL_law_21 : decode cL_law 21 = .ok (.istore 4, 2) := by decide +kernel
theorem dL_law_23 : decode cL_law 23 = .ok (.iload 4, 2) := by decide +kernel
theorem dL_law_25 : decode cL_law 25 = .ok (.aload_n 0, 1) := by decide +kernel
theorem dL_law_26 : decode cL_law 26 = .ok (.arraylength, 1) := by decide +kernel
theorem dL_law_27 : decode cL_law 27 = .ok (.iconst 5, 1) := by decide +kernel
theorem dL_law_28 : decode cL_law 28 = .ok (.isub, 1) := by decide +kernel
theorem dL_law_29 : decode cL_law 29 = .ok (.if_icmp .gt 1735, 3) := by decide +kernel
theorem dL_law_32 : decode cL_law 32 = .ok (.aload_n 0, 1) := by decide +kernel
theorem dL_law_33 : decode cL_law 33 = .ok (.iload 4, 2) := by decide +kernel
theorem dL_law_35 : decode cL_law 35 = .ok (.iaload, 1) := by decide +kernel
theorem dL_law_36 : decode cL_law 36 = .ok (.bipush 31, 2) := by decide +kernel
theorem dL_law_38 : decode cL_law 38 = .ok (.iand, 1) := by decide +kernel
theorem dL_law_39 : decode cL_law 39 = .ok (.tableswitch 1719 0 24 #[113, 169, 261, 305, 397, 465, 533, 601, 657, 748, 867, 908, 964, 1032, 1088, 1156, 1224, 1280, 1336, 1392, 1433, 1501, 1569, 1637, 1705], 113) := by decide +kernel
theorem dL_law_152 : decode cL_law 152 = .ok (.aload_n 1, 1) := by decide +kernel
theorem dL_law_153 : decode cL_law 153 = .ok (.aload_n 0, 1) := by decide +kernel
theorem dL_law_154 : decode cL_law 154 = .ok (.iload 4, 2) := by decide +kernel
theorem dL_law_156 : decode cL_law 156 = .ok (.iconst 1, 1) := by decide +kernel
theorem dL_law_157 : decode cL_law 157 = .ok (.iadd, 1) := by decide +kernel
theorem dL_law_158 : decode cL_law 158 = .ok (.iaload, 1) := by decide +kernel
theorem dL_law_159 : decode cL_law 159 = .ok (.aload_n 3, 1) := by decide +kernel
theorem dL_law_160 : decode cL_law 160 = .ok (.invokestatic 91, 3) := by decide +kernel
theorem dL_law_163 : decode cL_law 163 = .ok (.istore 5, 2) := by decide +kernel
theorem dL_law_165 : decode cL_law 165 = .ok (.aload_n 2, 1) := by decide +kernel
theorem dL_law_166 : decode cL_law 166 = .ok (.aload_n 0, 1) := by decide +kernel
theorem dL_law_167 : decode cL_law 167 = .ok (.iload 4, 2) := by decide +kernel
theorem dL_law_169 : decode cL_law 169 = .ok (.iconst 1, 1) := by decide +kernel
theorem dL_law_170 : decode cL_law 170 = .ok (.iadd, 1) := by decide +kernel
theorem dL_law_171 : decode cL_law 171 = .ok (.iaload, 1) := by decide +kernel
theorem dL_law_172 : decode cL_law 172 = .ok (.invokevirtual 96, 3) := by decide +kernel
theorem dL_law_175 : decode cL_law 175 = .ok (.istore 6, 2) := by decide +kernel
theorem dL_law_177 : decode cL_law 177 = .ok (.aload_n 2, 1) := by decide +kernel
theorem dL_law_178 : decode cL_law 178 = .ok (.invokevirtual 97, 3) := by decide +kernel
theorem dL_law_181 : decode cL_law 181 = .ok (.iload 5, 2) := by decide +kernel
theorem dL_law_183 : decode cL_law 183 = .ok (.if_icmp .eq 5, 3) := by decide +kernel
theorem dL_law_186 : decode cL_law 186 = .ok (.iconst 0, 1) := by decide +kernel
theorem dL_law_187 : decode cL_law 187 = .ok (.ireturn, 1) := by decide +kernel
theorem dL_law_188 : decode cL_law 188 = .ok (.iload 5, 2) := by decide +kernel
theorem dL_law_190 : decode cL_law 190 = .ok (.ifCond .ne 15, 3) := by decide +kernel
theorem dL_law_193 : decode cL_law 193 = .ok (.aload_n 3, 1) := by decide +kernel
theorem dL_law_194 : decode cL_law 194 = .ok (.iconst 0, 1) := by decide +kernel
theorem dL_law_195 : decode cL_law 195 = .ok (.laload, 1) := by decide +kernel
theorem dL_law_196 : decode cL_law 196 = .ok (.iload 6, 2) := by decide +kernel
theorem dL_law_198 : decode cL_law 198 = .ok (.i2l, 1) := by decide +kernel
theorem dL_law_199 : decode cL_law 199 = .ok (.lcmp, 1) := by decide +kernel
theorem dL_law_200 : decode cL_law 200 = .ok (.ifCond .eq 5, 3) := by decide +kernel
theorem dL_law_203 : decode cL_law 203 = .ok (.iconst 0, 1) := by decide +kernel
theorem dL_law_204 : decode cL_law 204 = .ok (.ireturn, 1) := by decide +kernel
theorem dL_law_205 : decode cL_law 205 = .ok (.goto 1553, 3) := by decide +kernel
theorem dL_law_208 : decode cL_law 208 = .ok (.aload_n 1, 1) := by decide +kernel
theorem dL_law_209 : decode cL_law 209 = .ok (.aload_n 0, 1) := by decide +kernel
theorem dL_law_210 : decode cL_law 210 = .ok (.iload 4, 2) := by decide +kernel
theorem dL_law_212 : decode cL_law 212 = .ok (.iconst 1, 1) := by decide +kernel
theorem dL_law_213 : decode cL_law 213 = .ok (.iadd, 1) := by decide +kernel
theorem dL_law_214 : decode cL_law 214 = .ok (.iaload, 1) := by decide +kernel
theorem dL_law_215 : decode cL_law 215 = .ok (.aload_n 0, 1) := by decide +kernel
theorem dL_law_216 : decode cL_law 216 = .ok (.iload 4, 2) := by decide +kernel
theorem dL_law_218 : decode cL_law 218 = .ok (.iconst 2, 1) := by decide +kernel
theorem dL_law_219 : decode cL_law 219 = .ok (.iadd, 1) := by decide +kernel
theorem dL_law_220 : decode cL_law 220 = .ok (.iaload, 1) := by decide +kernel
theorem dL_law_221 : decode cL_law 221 = .ok (.aload_n 0, 1) := by decide +kernel
theorem dL_law_222 : decode cL_law 222 = .ok (.iload 4, 2) := by decide +kernel
theorem dL_law_224 : decode cL_law 224 = .ok (.iconst 3, 1) := by decide +kernel
theorem dL_law_225 : decode cL_law 225 = .ok (.iadd, 1) := by decide +kernel
theorem dL_law_226 : decode cL_law 226 = .ok (.iaload, 1) := by decide +kernel
theorem dL_law_227 : decode cL_law 227 = .ok (.aload_n 0, 1) := by decide +kernel
theorem dL_law_228 : decode cL_law 228 = .ok (.iload 4, 2) := by decide +kernel
theorem dL_law_230 : decode cL_law 230 = .ok (.iconst 4, 1) := by decide +kernel
theorem dL_law_231 : decode cL_law 231 = .ok (.iadd, 1) := by decide +kernel
theorem dL_law_232 : decode cL_law 232 = .ok (.iaload, 1) := by decide +kernel
theorem dL_law_233 : decode cL_law 233 = .ok (.aload_n 3, 1) := by decide +kernel
theorem dL_law_234 : decode cL_law 234 = .ok (.invokestatic 100, 3) := by decide +kernel
theorem dL_law_237 : decode cL_law 237 = .ok (.istore 5, 2) := by decide +kernel
theorem dL_law_239 : decode cL_law 239 = .ok (.aload_n 2, 1) := by decide +kernel
theorem dL_law_240 : decode cL_law 240 = .ok (.aload_n 0, 1) := by decide +kernel
theorem dL_law_241 : decode cL_law 241 = .ok (.iload 4, 2) := by decide +kernel
theorem dL_law_243 : decode cL_law 243 = .ok (.iconst 1, 1) := by decide +kernel
theorem dL_law_244 : decode cL_law 244 = .ok (.iadd, 1) := by decide +kernel
theorem dL_law_245 : decode cL_law 245 = .ok (.iaload, 1) := by decide +kernel
theorem dL_law_246 : decode cL_law 246 = .ok (.aload_n 0, 1) := by decide +kernel
theorem dL_law_247 : decode cL_law 247 = .ok (.iload 4, 2) := by decide +kernel
theorem dL_law_249 : decode cL_law 249 = .ok (.iconst 2, 1) := by decide +kernel
theorem dL_law_250 : decode cL_law 250 = .ok (.iadd, 1) := by decide +kernel
theorem dL_law_251 : decode cL_law 251 = .ok (.iaload, 1) := by decide +kernel
theorem dL_law_252 : decode cL_law 252 = .ok (.aload_n 0, 1) := by decide +kernel
theorem dL_law_253 : decode cL_law 253 = .ok (.iload 4, 2) := by decide +kernel
theorem dL_law_255 : decode cL_law 255 = .ok (.iconst 3, 1) := by decide +kernel
theorem dL_law_256 : decode cL_law 256 = .ok (.iadd, 1) := by decide +kernel
theorem dL_law_257 : decode cL_law 257 = .ok (.iaload, 1) := by decide +kernel
theorem dL_law_258 : decode cL_law 258 = .ok (.aload_n 0, 1) := by decide +kernel
theorem dL_law_259 : decode cL_law 259 = .ok (.iload 4, 2) := by decide +kernel
theorem dL_law_261 : decode cL_law 261 = .ok (.iconst 4, 1) := by decide +kernel
theorem dL_law_262 : decode cL_law 262 = .ok (.iadd, 1) := by decide +kernel
theorem dL_law_263 : decode cL_law 263 = .ok (.iaload, 1) := by decide +kernel
theorem dL_law_264 : decode cL_law 264 = .ok (.invokevirtual 103, 3) := by decide +kernel
theorem dL_law_267 : decode cL_law 267 = .ok (.istore 6, 2) := by decide +kernel
theorem dL_law_269 : decode cL_law 269 = .ok (.aload_n 2, 1) := by decide +kernel
theorem dL_law_270 : decode cL_law 270 = .ok (.invokevirtual 97, 3) := by decide +kernel
theorem dL_law_273 : decode cL_law 273 = .ok (.iload 5, 2) := by decide +kernel
theorem dL_law_275 : decode cL_law 275 = .ok (.if_icmp .eq 5, 3) := by decide +kernel
theorem dL_law_278 : decode cL_law 278 = .ok (.iconst 0, 1) := by decide +kernel
theorem dL_law_279 : decode cL_law 279 = .ok (.ireturn, 1) := by decide +kernel
theorem dL_law_280 : decode cL_law 280 = .ok (.iload 5, 2) := by decide +kernel
theorem dL_law_282 : decode cL_law 282 = .ok (.ifCond .ne 15, 3) := by decide +kernel
theorem dL_law_285 : decode cL_law 285 = .ok (.aload_n 3, 1) := by decide +kernel
theorem dL_law_286 : decode cL_law 286 = .ok (.iconst 0, 1) := by decide +kernel
theorem dL_law_287 : decode cL_law 287 = .ok (.laload, 1) := by decide +kernel
theorem dL_law_288 : decode cL_law 288 = .ok (.iload 6, 2) := by decide +kernel
theorem dL_law_290 : decode cL_law 290 = .ok (.i2l, 1) := by decide +kernel
theorem dL_law_291 : decode cL_law 291 = .ok (.lcmp, 1) := by decide +kernel
theorem dL_law_292 : decode cL_law 292 = .ok (.ifCond .eq 5, 3) := by decide +kernel
theorem dL_law_295 : decode cL_law 295 = .ok (.iconst 0, 1) := by decide +kernel
theorem dL_law_296 : decode cL_law 296 = .ok (.ireturn, 1) := by decide +kernel
theorem dL_law_297 : decode cL_law 297 = .ok (.goto 1461, 3) := by decide +kernel
theorem dL_law_300 : decode cL_law 300 = .ok (.aload_n 1, 1) := by decide +kernel
theorem dL_law_301 : decode cL_law 301 = .ok (.aload_n 3, 1) := by decide +kernel
theorem dL_law_302 : decode cL_law 302 = .ok (.invokestatic 104, 3) := by decide +kernel
theorem dL_law_305 : decode cL_law 305 = .ok (.istore 5, 2) := by decide +kernel
theorem dL_law_307 : decode cL_law 307 = .ok (.aload_n 2, 1) := by decide +kernel
theorem dL_law_308 : decode cL_law 308 = .ok (.invokevirtual 107, 3) := by decide +kernel
theorem dL_law_311 : decode cL_law 311 = .ok (.istore 6, 2) := by decide +kernel
theorem dL_law_313 : decode cL_law 313 = .ok (.aload_n 2, 1) := by decide +kernel
theorem dL_law_314 : decode cL_law 314 = .ok (.invokevirtual 97, 3) := by decide +kernel
theorem dL_law_317 : decode cL_law 317 = .ok (.iload 5, 2) := by decide +kernel
theorem dL_law_319 : decode cL_law 319 = .ok (.if_icmp .eq 5, 3) := by decide +kernel
theorem dL_law_322 : decode cL_law 322 = .ok (.iconst 0, 1) := by decide +kernel
theorem dL_law_323 : decode cL_law 323 = .ok (.ireturn, 1) := by decide +kernel
theorem dL_law_324 : decode cL_law 324 = .ok (.iload 5, 2) := by decide +kernel
theorem dL_law_326 : decode cL_law 326 = .ok (.ifCond .ne 15, 3) := by decide +kernel
theorem dL_law_329 : decode cL_law 329 = .ok (.aload_n 3, 1) := by decide +kernel
theorem dL_law_330 : decode cL_law 330 = .ok (.iconst 0, 1) := by decide +kernel
theorem dL_law_331 : decode cL_law 331 = .ok (.laload, 1) := by decide +kernel
theorem dL_law_332 : decode cL_law 332 = .ok (.iload 6, 2) := by decide +kernel
theorem dL_law_334 : decode cL_law 334 = .ok (.i2l, 1) := by decide +kernel
theorem dL_law_335 : decode cL_law 335 = .ok (.lcmp, 1) := by decide +kernel
theorem dL_law_336 : decode cL_law 336 = .ok (.ifCond .eq 5, 3) := by decide +kernel
theorem dL_law_339 : decode cL_law 339 = .ok (.iconst 0, 1) := by decide +kernel
theorem dL_law_340 : decode cL_law 340 = .ok (.ireturn, 1) := by decide +kernel
theorem dL_law_341 : decode cL_law 341 = .ok (.goto 1417, 3) := by decide +kernel
theorem dL_law_344 : decode cL_law 344 = .ok (.aload_n 1, 1) := by decide +kernel
theorem dL_law_345 : decode cL_law 345 = .ok (.aload_n 0, 1) := by decide +kernel
theorem dL_law_346 : decode cL_law 346 = .ok (.iload 4, 2) := by decide +kernel
theorem dL_law_348 : decode cL_law 348 = .ok (.iconst 1, 1) := by decide +kernel
theorem dL_law_349 : decode cL_law 349 = .ok (.iadd, 1) := by decide +kernel
theorem dL_law_350 : decode cL_law 350 = .ok (.iaload, 1) := by decide +kernel
theorem dL_law_351 : decode cL_law 351 = .ok (.aload_n 0, 1) := by decide +kernel
theorem dL_law_352 : decode cL_law 352 = .ok (.iload 4, 2) := by decide +kernel
theorem dL_law_354 : decode cL_law 354 = .ok (.iconst 2, 1) := by decide +kernel
theorem dL_law_355 : decode cL_law 355 = .ok (.iadd, 1) := by decide +kernel
theorem dL_law_356 : decode cL_law 356 = .ok (.iaload, 1) := by decide +kernel
theorem dL_law_357 : decode cL_law 357 = .ok (.aload_n 0, 1) := by decide +kernel
theorem dL_law_358 : decode cL_law 358 = .ok (.iload 4, 2) := by decide +kernel
theorem dL_law_360 : decode cL_law 360 = .ok (.iconst 3, 1) := by decide +kernel
theorem dL_law_361 : decode cL_law 361 = .ok (.iadd, 1) := by decide +kernel
theorem dL_law_362 : decode cL_law 362 = .ok (.iaload, 1) := by decide +kernel
theorem dL_law_363 : decode cL_law 363 = .ok (.aload_n 0, 1) := by decide +kernel
theorem dL_law_364 : decode cL_law 364 = .ok (.iload 4, 2) := by decide +kernel
theorem dL_law_366 : decode cL_law 366 = .ok (.iconst 4, 1) := by decide +kernel
theorem dL_law_367 : decode cL_law 367 = .ok (.iadd, 1) := by decide +kernel
theorem dL_law_368 : decode cL_law 368 = .ok (.iaload, 1) := by decide +kernel
theorem dL_law_369 : decode cL_law 369 = .ok (.aload_n 3, 1) := by decide +kernel
theorem dL_law_370 : decode cL_law 370 = .ok (.invokestatic 108, 3) := by decide +kernel
theorem dL_law_373 : decode cL_law 373 = .ok (.istore 5, 2) := by decide +kernel
theorem dL_law_375 : decode cL_law 375 = .ok (.aload_n 2, 1) := by decide +kernel
theorem dL_law_376 : decode cL_law 376 = .ok (.aload_n 0, 1) := by decide +kernel
theorem dL_law_377 : decode cL_law 377 = .ok (.iload 4, 2) := by decide +kernel
theorem dL_law_379 : decode cL_law 379 = .ok (.iconst 1, 1) := by decide +kernel
theorem dL_law_380 : decode cL_law 380 = .ok (.iadd, 1) := by decide +kernel
theorem dL_law_381 : decode cL_law 381 = .ok (.iaload, 1) := by decide +kernel
theorem dL_law_382 : decode cL_law 382 = .ok (.aload_n 0, 1) := by decide +kernel
theorem dL_law_383 : decode cL_law 383 = .ok (.iload 4, 2) := by decide +kernel
theorem dL_law_385 : decode cL_law 385 = .ok (.iconst 2, 1) := by decide +kernel
theorem dL_law_386 : decode cL_law 386 = .ok (.iadd, 1) := by decide +kernel
theorem dL_law_387 : decode cL_law 387 = .ok (.iaload, 1) := by decide +kernel
theorem dL_law_388 : decode cL_law 388 = .ok (.aload_n 0, 1) := by decide +kernel
theorem dL_law_389 : decode cL_law 389 = .ok (.iload 4, 2) := by decide +kernel
theorem dL_law_391 : decode cL_law 391 = .ok (.iconst 3, 1) := by decide +kernel
theorem dL_law_392 : decode cL_law 392 = .ok (.iadd, 1) := by decide +kernel
theorem dL_law_393 : decode cL_law 393 = .ok (.iaload, 1) := by decide +kernel
theorem dL_law_394 : decode cL_law 394 = .ok (.aload_n 0, 1) := by decide +kernel
theorem dL_law_395 : decode cL_law 395 = .ok (.iload 4, 2) := by decide +kernel
theorem dL_law_397 : decode cL_law 397 = .ok (.iconst 4, 1) := by decide +kernel
theorem dL_law_398 : decode cL_law 398 = .ok (.iadd, 1) := by decide +kernel
theorem dL_law_399 : decode cL_law 399 = .ok (.iaload, 1) := by decide +kernel
theorem dL_law_400 : decode cL_law 400 = .ok (.invokevirtual 110, 3) := by decide +kernel
theorem dL_law_403 : decode cL_law 403 = .ok (.istore 6, 2) := by decide +kernel
theorem dL_law_405 : decode cL_law 405 = .ok (.aload_n 2, 1) := by decide +kernel
theorem dL_law_406 : decode cL_law 406 = .ok (.invokevirtual 97, 3) := by decide +kernel
theorem dL_law_409 : decode cL_law 409 = .ok (.iload 5, 2) := by decide +kernel
theorem dL_law_411 : decode cL_law 411 = .ok (.if_icmp .eq 5, 3) := by decide +kernel
theorem dL_law_414 : decode cL_law 414 = .ok (.iconst 0, 1) := by decide +kernel
theorem dL_law_415 : decode cL_law 415 = .ok (.ireturn, 1) := by decide +kernel
theorem dL_law_416 : decode cL_law 416 = .ok (.iload 5, 2) := by decide +kernel
theorem dL_law_418 : decode cL_law 418 = .ok (.ifCond .ne 15, 3) := by decide +kernel
theorem dL_law_421 : decode cL_law 421 = .ok (.aload_n 3, 1) := by decide +kernel
theorem dL_law_422 : decode cL_law 422 = .ok (.iconst 0, 1) := by decide +kernel
theorem dL_law_423 : decode cL_law 423 = .ok (.laload, 1) := by decide +kernel
theorem dL_law_424 : decode cL_law 424 = .ok (.iload 6, 2) := by decide +kernel
theorem dL_law_426 : decode cL_law 426 = .ok (.i2l, 1) := by decide +kernel
theorem dL_law_427 : decode cL_law 427 = .ok (.lcmp, 1) := by decide +kernel
theorem dL_law_428 : decode cL_law 428 = .ok (.ifCond .eq 5, 3) := by decide +kernel
theorem dL_law_431 : decode cL_law 431 = .ok (.iconst 0, 1) := by decide +kernel
theorem dL_law_432 : decode cL_law 432 = .ok (.ireturn, 1) := by decide +kernel
theorem dL_law_433 : decode cL_law 433 = .ok (.goto 1325, 3) := by decide +kernel
theorem dL_law_436 : decode cL_law 436 = .ok (.aload_n 1, 1) := by decide +kernel
theorem dL_law_437 : decode cL_law 437 = .ok (.aload_n 0, 1) := by decide +kernel
theorem dL_law_438 : decode cL_law 438 = .ok (.iload 4, 2) := by decide +kernel
theorem dL_law_440 : decode cL_law 440 = .ok (.iconst 1, 1) := by decide +kernel
theorem dL_law_441 : decode cL_law 441 = .ok (.iadd, 1) := by decide +kernel
theorem dL_law_442 : decode cL_law 442 = .ok (.iaload, 1) := by decide +kernel
theorem dL_law_443 : decode cL_law 443 = .ok (.aload_n 0, 1) := by decide +kernel
theorem dL_law_444 : decode cL_law 444 = .ok (.iload 4, 2) := by decide +kernel
theorem dL_law_446 : decode cL_law 446 = .ok (.iconst 2, 1) := by decide +kernel
theorem dL_law_447 : decode cL_law 447 = .ok (.iadd, 1) := by decide +kernel
theorem dL_law_448 : decode cL_law 448 = .ok (.iaload, 1) := by decide +kernel
theorem dL_law_449 : decode cL_law 449 = .ok (.aload_n 3, 1) := by decide +kernel
theorem dL_law_450 : decode cL_law 450 = .ok (.invokestatic 111, 3) := by decide +kernel
theorem dL_law_453 : decode cL_law 453 = .ok (.istore 5, 2) := by decide +kernel
theorem dL_law_455 : decode cL_law 455 = .ok (.aload_n 2, 1) := by decide +kernel
theorem dL_law_456 : decode cL_law 456 = .ok (.aload_n 0, 1) := by decide +kernel
theorem dL_law_457 : decode cL_law 457 = .ok (.iload 4, 2) := by decide +kernel
theorem dL_law_459 : decode cL_law 459 = .ok (.iconst 1, 1) := by decide +kernel
theorem dL_law_460 : decode cL_law 460 = .ok (.iadd, 1) := by decide +kernel
theorem dL_law_461 : decode cL_law 461 = .ok (.iaload, 1) := by decide +kernel
theorem dL_law_462 : decode cL_law 462 = .ok (.aload_n 0, 1) := by decide +kernel
theorem dL_law_463 : decode cL_law 463 = .ok (.iload 4, 2) := by decide +kernel
theorem dL_law_465 : decode cL_law 465 = .ok (.iconst 2, 1) := by decide +kernel
theorem dL_law_466 : decode cL_law 466 = .ok (.iadd, 1) := by decide +kernel
theorem dL_law_467 : decode cL_law 467 = .ok (.iaload, 1) := by decide +kernel
theorem dL_law_468 : decode cL_law 468 = .ok (.invokevirtual 114, 3) := by decide +kernel
theorem dL_law_471 : decode cL_law 471 = .ok (.istore 6, 2) := by decide +kernel
theorem dL_law_473 : decode cL_law 473 = .ok (.aload_n 2, 1) := by decide +kernel
theorem dL_law_474 : decode cL_law 474 = .ok (.invokevirtual 97, 3) := by decide +kernel
theorem dL_law_477 : decode cL_law 477 = .ok (.iload 5, 2) := by decide +kernel
theorem dL_law_479 : decode cL_law 479 = .ok (.if_icmp .eq 5, 3) := by decide +kernel
theorem dL_law_482 : decode cL_law 482 = .ok (.iconst 0, 1) := by decide +kernel
theorem dL_law_483 : decode cL_law 483 = .ok (.ireturn, 1) := by decide +kernel
theorem dL_law_484 : decode cL_law 484 = .ok (.iload 5, 2) := by decide +kernel
theorem dL_law_486 : decode cL_law 486 = .ok (.ifCond .ne 15, 3) := by decide +kernel
theorem dL_law_489 : decode cL_law 489 = .ok (.aload_n 3, 1) := by decide +kernel
theorem dL_law_490 : decode cL_law 490 = .ok (.iconst 0, 1) := by decide +kernel
theorem dL_law_491 : decode cL_law 491 = .ok (.laload, 1) := by decide +kernel
theorem dL_law_492 : decode cL_law 492 = .ok (.iload 6, 2) := by decide +kernel
theorem dL_law_494 : decode cL_law 494 = .ok (.i2l, 1) := by decide +kernel
theorem dL_law_495 : decode cL_law 495 = .ok (.lcmp, 1) := by decide +kernel
theorem dL_law_496 : decode cL_law 496 = .ok (.ifCond .eq 5, 3) := by decide +kernel
theorem dL_law_499 : decode cL_law 499 = .ok (.iconst 0, 1) := by decide +kernel
theorem dL_law_500 : decode cL_law 500 = .ok (.ireturn, 1) := by decide +kernel
theorem dL_law_501 : decode cL_law 501 = .ok (.goto 1257, 3) := by decide +kernel
theorem dL_law_504 : decode cL_law 504 = .ok (.aload_n 1, 1) := by decide +kernel
theorem dL_law_505 : decode cL_law 505 = .ok (.aload_n 0, 1) := by decide +kernel
theorem dL_law_506 : decode cL_law 506 = .ok (.iload 4, 2) := by decide +kernel
theorem dL_law_508 : decode cL_law 508 = .ok (.iconst 1, 1) := by decide +kernel
theorem dL_law_509 : decode cL_law 509 = .ok (.iadd, 1) := by decide +kernel
theorem dL_law_510 : decode cL_law 510 = .ok (.iaload, 1) := by decide +kernel
theorem dL_law_511 : decode cL_law 511 = .ok (.aload_n 0, 1) := by decide +kernel
theorem dL_law_512 : decode cL_law 512 = .ok (.iload 4, 2) := by decide +kernel
theorem dL_law_514 : decode cL_law 514 = .ok (.iconst 2, 1) := by decide +kernel
theorem dL_law_515 : decode cL_law 515 = .ok (.iadd, 1) := by decide +kernel
theorem dL_law_516 : decode cL_law 516 = .ok (.iaload, 1) := by decide +kernel
theorem dL_law_517 : decode cL_law 517 = .ok (.aload_n 3, 1) := by decide +kernel
theorem dL_law_518 : decode cL_law 518 = .ok (.invokestatic 115, 3) := by decide +kernel
theorem dL_law_521 : decode cL_law 521 = .ok (.istore 5, 2) := by decide +kernel
theorem dL_law_523 : decode cL_law 523 = .ok (.aload_n 2, 1) := by decide +kernel
theorem dL_law_524 : decode cL_law 524 = .ok (.aload_n 0, 1) := by decide +kernel
theorem dL_law_525 : decode cL_law 525 = .ok (.iload 4, 2) := by decide +kernel
theorem dL_law_527 : decode cL_law 527 = .ok (.iconst 1, 1) := by decide +kernel
theorem dL_law_528 : decode cL_law 528 = .ok (.iadd, 1) := by decide +kernel
theorem dL_law_529 : decode cL_law 529 = .ok (.iaload, 1) := by decide +kernel
theorem dL_law_530 : decode cL_law 530 = .ok (.aload_n 0, 1) := by decide +kernel
theorem dL_law_531 : decode cL_law 531 = .ok (.iload 4, 2) := by decide +kernel
theorem dL_law_533 : decode cL_law 533 = .ok (.iconst 2, 1) := by decide +kernel
theorem dL_law_534 : decode cL_law 534 = .ok (.iadd, 1) := by decide +kernel
theorem dL_law_535 : decode cL_law 535 = .ok (.iaload, 1) := by decide +kernel
theorem dL_law_536 : decode cL_law 536 = .ok (.invokevirtual 117, 3) := by decide +kernel
theorem dL_law_539 : decode cL_law 539 = .ok (.istore 6, 2) := by decide +kernel
theorem dL_law_541 : decode cL_law 541 = .ok (.aload_n 2, 1) := by decide +kernel
theorem dL_law_542 : decode cL_law 542 = .ok (.invokevirtual 97, 3) := by decide +kernel
theorem dL_law_545 : decode cL_law 545 = .ok (.iload 5, 2) := by decide +kernel
theorem dL_law_547 : decode cL_law 547 = .ok (.if_icmp .eq 5, 3) := by decide +kernel
theorem dL_law_550 : decode cL_law 550 = .ok (.iconst 0, 1) := by decide +kernel
theorem dL_law_551 : decode cL_law 551 = .ok (.ireturn, 1) := by decide +kernel
theorem dL_law_552 : decode cL_law 552 = .ok (.iload 5, 2) := by decide +kernel
theorem dL_law_554 : decode cL_law 554 = .ok (.ifCond .ne 15, 3) := by decide +kernel
theorem dL_law_557 : decode cL_law 557 = .ok (.aload_n 3, 1) := by decide +kernel
theorem dL_law_558 : decode cL_law 558 = .ok (.iconst 0, 1) := by decide +kernel
theorem dL_law_559 : decode cL_law 559 = .ok (.laload, 1) := by decide +kernel
theorem dL_law_560 : decode cL_law 560 = .ok (.iload 6, 2) := by decide +kernel
theorem dL_law_562 : decode cL_law 562 = .ok (.i2l, 1) := by decide +kernel
theorem dL_law_563 : decode cL_law 563 = .ok (.lcmp, 1) := by decide +kernel
theorem dL_law_564 : decode cL_law 564 = .ok (.ifCond .eq 5, 3) := by decide +kernel
theorem dL_law_567 : decode cL_law 567 = .ok (.iconst 0, 1) := by decide +kernel
theorem dL_law_568 : decode cL_law 568 = .ok (.ireturn, 1) := by decide +kernel
theorem dL_law_569 : decode cL_law 569 = .ok (.goto 1189, 3) := by decide +kernel
theorem dL_law_572 : decode cL_law 572 = .ok (.aload_n 1, 1) := by decide +kernel
theorem dL_law_573 : decode cL_law 573 = .ok (.aload_n 0, 1) := by decide +kernel
theorem dL_law_574 : decode cL_law 574 = .ok (.iload 4, 2) := by decide +kernel
theorem dL_law_576 : decode cL_law 576 = .ok (.iconst 1, 1) := by decide +kernel
theorem dL_law_577 : decode cL_law 577 = .ok (.iadd, 1) := by decide +kernel
theorem dL_law_578 : decode cL_law 578 = .ok (.iaload, 1) := by decide +kernel
theorem dL_law_579 : decode cL_law 579 = .ok (.aload_n 0, 1) := by decide +kernel
theorem dL_law_580 : decode cL_law 580 = .ok (.iload 4, 2) := by decide +kernel
theorem dL_law_582 : decode cL_law 582 = .ok (.iconst 2, 1) := by decide +kernel
theorem dL_law_583 : decode cL_law 583 = .ok (.iadd, 1) := by decide +kernel
theorem dL_law_584 : decode cL_law 584 = .ok (.iaload, 1) := by decide +kernel
theorem dL_law_585 : decode cL_law 585 = .ok (.aload_n 3, 1) := by decide +kernel
theorem dL_law_586 : decode cL_law 586 = .ok (.invokestatic 118, 3) := by decide +kernel
theorem dL_law_589 : decode cL_law 589 = .ok (.istore 5, 2) := by decide +kernel
theorem dL_law_591 : decode cL_law 591 = .ok (.aload_n 2, 1) := by decide +kernel
theorem dL_law_592 : decode cL_law 592 = .ok (.aload_n 0, 1) := by decide +kernel
theorem dL_law_593 : decode cL_law 593 = .ok (.iload 4, 2) := by decide +kernel
theorem dL_law_595 : decode cL_law 595 = .ok (.iconst 1, 1) := by decide +kernel
theorem dL_law_596 : decode cL_law 596 = .ok (.iadd, 1) := by decide +kernel
theorem dL_law_597 : decode cL_law 597 = .ok (.iaload, 1) := by decide +kernel
theorem dL_law_598 : decode cL_law 598 = .ok (.aload_n 0, 1) := by decide +kernel
theorem dL_law_599 : decode cL_law 599 = .ok (.iload 4, 2) := by decide +kernel
theorem dL_law_601 : decode cL_law 601 = .ok (.iconst 2, 1) := by decide +kernel
theorem dL_law_602 : decode cL_law 602 = .ok (.iadd, 1) := by decide +kernel
theorem dL_law_603 : decode cL_law 603 = .ok (.iaload, 1) := by decide +kernel
theorem dL_law_604 : decode cL_law 604 = .ok (.invokevirtual 120, 3) := by decide +kernel
theorem dL_law_607 : decode cL_law 607 = .ok (.istore 6, 2) := by decide +kernel
theorem dL_law_609 : decode cL_law 609 = .ok (.aload_n 2, 1) := by decide +kernel
theorem dL_law_610 : decode cL_law 610 = .ok (.invokevirtual 97, 3) := by decide +kernel
theorem dL_law_613 : decode cL_law 613 = .ok (.iload 5, 2) := by decide +kernel
theorem dL_law_615 : decode cL_law 615 = .ok (.if_icmp .eq 5, 3) := by decide +kernel
theorem dL_law_618 : decode cL_law 618 = .ok (.iconst 0, 1) := by decide +kernel
theorem dL_law_619 : decode cL_law 619 = .ok (.ireturn, 1) := by decide +kernel
theorem dL_law_620 : decode cL_law 620 = .ok (.iload 5, 2) := by decide +kernel
theorem dL_law_622 : decode cL_law 622 = .ok (.ifCond .ne 15, 3) := by decide +kernel
theorem dL_law_625 : decode cL_law 625 = .ok (.aload_n 3, 1) := by decide +kernel
theorem dL_law_626 : decode cL_law 626 = .ok (.iconst 0, 1) := by decide +kernel
theorem dL_law_627 : decode cL_law 627 = .ok (.laload, 1) := by decide +kernel
theorem dL_law_628 : decode cL_law 628 = .ok (.iload 6, 2) := by decide +kernel
theorem dL_law_630 : decode cL_law 630 = .ok (.i2l, 1) := by decide +kernel
theorem dL_law_631 : decode cL_law 631 = .ok (.lcmp, 1) := by decide +kernel
theorem dL_law_632 : decode cL_law 632 = .ok (.ifCond .eq 5, 3) := by decide +kernel
theorem dL_law_635 : decode cL_law 635 = .ok (.iconst 0, 1) := by decide +kernel
theorem dL_law_636 : decode cL_law 636 = .ok (.ireturn, 1) := by decide +kernel
theorem dL_law_637 : decode cL_law 637 = .ok (.goto 1121, 3) := by decide +kernel
theorem dL_law_640 : decode cL_law 640 = .ok (.aload_n 1, 1) := by decide +kernel
theorem dL_law_641 : decode cL_law 641 = .ok (.aload_n 0, 1) := by decide +kernel
theorem dL_law_642 : decode cL_law 642 = .ok (.iload 4, 2) := by decide +kernel
theorem dL_law_644 : decode cL_law 644 = .ok (.iconst 1, 1) := by decide +kernel
theorem dL_law_645 : decode cL_law 645 = .ok (.iadd, 1) := by decide +kernel
theorem dL_law_646 : decode cL_law 646 = .ok (.iaload, 1) := by decide +kernel
theorem dL_law_647 : decode cL_law 647 = .ok (.aload_n 3, 1) := by decide +kernel
theorem dL_law_648 : decode cL_law 648 = .ok (.invokestatic 121, 3) := by decide +kernel
theorem dL_law_651 : decode cL_law 651 = .ok (.istore 5, 2) := by decide +kernel
theorem dL_law_653 : decode cL_law 653 = .ok (.aload_n 2, 1) := by decide +kernel
theorem dL_law_654 : decode cL_law 654 = .ok (.aload_n 0, 1) := by decide +kernel
theorem dL_law_655 : decode cL_law 655 = .ok (.iload 4, 2) := by decide +kernel
theorem dL_law_657 : decode cL_law 657 = .ok (.iconst 1, 1) := by decide +kernel
theorem dL_law_658 : decode cL_law 658 = .ok (.iadd, 1) := by decide +kernel
theorem dL_law_659 : decode cL_law 659 = .ok (.iaload, 1) := by decide +kernel
theorem dL_law_660 : decode cL_law 660 = .ok (.invokevirtual 123, 3) := by decide +kernel
theorem dL_law_663 : decode cL_law 663 = .ok (.istore 6, 2) := by decide +kernel
theorem dL_law_665 : decode cL_law 665 = .ok (.aload_n 2, 1) := by decide +kernel
theorem dL_law_666 : decode cL_law 666 = .ok (.invokevirtual 97, 3) := by decide +kernel
theorem dL_law_669 : decode cL_law 669 = .ok (.iload 5, 2) := by decide +kernel
theorem dL_law_671 : decode cL_law 671 = .ok (.if_icmp .eq 5, 3) := by decide +kernel
theorem dL_law_674 : decode cL_law 674 = .ok (.iconst 0, 1) := by decide +kernel
theorem dL_law_675 : decode cL_law 675 = .ok (.ireturn, 1) := by decide +kernel
theorem dL_law_676 : decode cL_law 676 = .ok (.iload 5, 2) := by decide +kernel
theorem dL_law_678 : decode cL_law 678 = .ok (.ifCond .ne 15, 3) := by decide +kernel
theorem dL_law_681 : decode cL_law 681 = .ok (.aload_n 3, 1) := by decide +kernel
theorem dL_law_682 : decode cL_law 682 = .ok (.iconst 0, 1) := by decide +kernel
theorem dL_law_683 : decode cL_law 683 = .ok (.laload, 1) := by decide +kernel
theorem dL_law_684 : decode cL_law 684 = .ok (.iload 6, 2) := by decide +kernel
theorem dL_law_686 : decode cL_law 686 = .ok (.i2l, 1) := by decide +kernel
theorem dL_law_687 : decode cL_law 687 = .ok (.lcmp, 1) := by decide +kernel
theorem dL_law_688 : decode cL_law 688 = .ok (.ifCond .eq 5, 3) := by decide +kernel
theorem dL_law_691 : decode cL_law 691 = .ok (.iconst 0, 1) := by decide +kernel
theorem dL_law_692 : decode cL_law 692 = .ok (.ireturn, 1) := by decide +kernel
theorem dL_law_693 : decode cL_law 693 = .ok (.goto 1065, 3) := by decide +kernel
theorem dL_law_696 : decode cL_law 696 = .ok (.aload_n 1, 1) := by decide +kernel
theorem dL_law_697 : decode cL_law 697 = .ok (.aload_n 0, 1) := by decide +kernel
theorem dL_law_698 : decode cL_law 698 = .ok (.iload 4, 2) := by decide +kernel
theorem dL_law_700 : decode cL_law 700 = .ok (.iconst 1, 1) := by decide +kernel
theorem dL_law_701 : decode cL_law 701 = .ok (.iadd, 1) := by decide +kernel
theorem dL_law_702 : decode cL_law 702 = .ok (.iaload, 1) := by decide +kernel
theorem dL_law_703 : decode cL_law 703 = .ok (.aload_n 0, 1) := by decide +kernel
theorem dL_law_704 : decode cL_law 704 = .ok (.iload 4, 2) := by decide +kernel
theorem dL_law_706 : decode cL_law 706 = .ok (.iconst 2, 1) := by decide +kernel
theorem dL_law_707 : decode cL_law 707 = .ok (.iadd, 1) := by decide +kernel
theorem dL_law_708 : decode cL_law 708 = .ok (.iaload, 1) := by decide +kernel
theorem dL_law_709 : decode cL_law 709 = .ok (.ifCond .eq 7, 3) := by decide +kernel
theorem dL_law_712 : decode cL_law 712 = .ok (.iconst 1, 1) := by decide +kernel
theorem dL_law_713 : decode cL_law 713 = .ok (.goto 4, 3) := by decide +kernel
theorem dL_law_716 : decode cL_law 716 = .ok (.iconst 0, 1) := by decide +kernel
theorem dL_law_717 : decode cL_law 717 = .ok (.aload_n 3, 1) := by decide +kernel
theorem dL_law_718 : decode cL_law 718 = .ok (.invokestatic 124, 3) := by decide +kernel
theorem dL_law_721 : decode cL_law 721 = .ok (.istore 5, 2) := by decide +kernel
theorem dL_law_723 : decode cL_law 723 = .ok (.aload_n 2, 1) := by decide +kernel
theorem dL_law_724 : decode cL_law 724 = .ok (.aload_n 0, 1) := by decide +kernel
theorem dL_law_725 : decode cL_law 725 = .ok (.iload 4, 2) := by decide +kernel
theorem dL_law_727 : decode cL_law 727 = .ok (.iconst 1, 1) := by decide +kernel
theorem dL_law_728 : decode cL_law 728 = .ok (.iadd, 1) := by decide +kernel
theorem dL_law_729 : decode cL_law 729 = .ok (.iaload, 1) := by decide +kernel
theorem dL_law_730 : decode cL_law 730 = .ok (.aload_n 0, 1) := by decide +kernel
theorem dL_law_731 : decode cL_law 731 = .ok (.iload 4, 2) := by decide +kernel
theorem dL_law_733 : decode cL_law 733 = .ok (.iconst 2, 1) := by decide +kernel
theorem dL_law_734 : decode cL_law 734 = .ok (.iadd, 1) := by decide +kernel
theorem dL_law_735 : decode cL_law 735 = .ok (.iaload, 1) := by decide +kernel
theorem dL_law_736 : decode cL_law 736 = .ok (.ifCond .eq 7, 3) := by decide +kernel
theorem dL_law_739 : decode cL_law 739 = .ok (.iconst 1, 1) := by decide +kernel
theorem dL_law_740 : decode cL_law 740 = .ok (.goto 4, 3) := by decide +kernel
theorem dL_law_743 : decode cL_law 743 = .ok (.iconst 0, 1) := by decide +kernel
theorem dL_law_744 : decode cL_law 744 = .ok (.invokevirtual 127, 3) := by decide +kernel
theorem dL_law_747 : decode cL_law 747 = .ok (.istore 6, 2) := by decide +kernel
theorem dL_law_749 : decode cL_law 749 = .ok (.aload_n 2, 1) := by decide +kernel
theorem dL_law_750 : decode cL_law 750 = .ok (.invokevirtual 97, 3) := by decide +kernel
theorem dL_law_753 : decode cL_law 753 = .ok (.iload 5, 2) := by decide +kernel
theorem dL_law_755 : decode cL_law 755 = .ok (.if_icmp .eq 5, 3) := by decide +kernel
theorem dL_law_758 : decode cL_law 758 = .ok (.iconst 0, 1) := by decide +kernel
theorem dL_law_759 : decode cL_law 759 = .ok (.ireturn, 1) := by decide +kernel
theorem dL_law_760 : decode cL_law 760 = .ok (.iload 5, 2) := by decide +kernel
theorem dL_law_762 : decode cL_law 762 = .ok (.ifCond .ne 22, 3) := by decide +kernel
theorem dL_law_765 : decode cL_law 765 = .ok (.aload_n 3, 1) := by decide +kernel
theorem dL_law_766 : decode cL_law 766 = .ok (.iconst 0, 1) := by decide +kernel
theorem dL_law_767 : decode cL_law 767 = .ok (.laload, 1) := by decide +kernel
theorem dL_law_768 : decode cL_law 768 = .ok (.iload 6, 2) := by decide +kernel
theorem dL_law_770 : decode cL_law 770 = .ok (.ifCond .eq 7, 3) := by decide +kernel
theorem dL_law_773 : decode cL_law 773 = .ok (.lconst 1, 1) := by decide +kernel
theorem dL_law_774 : decode cL_law 774 = .ok (.goto 4, 3) := by decide +kernel
theorem dL_law_777 : decode cL_law 777 = .ok (.lconst 0, 1) := by decide +kernel
theorem dL_law_778 : decode cL_law 778 = .ok (.lcmp, 1) := by decide +kernel
theorem dL_law_779 : decode cL_law 779 = .ok (.ifCond .eq 5, 3) := by decide +kernel
theorem dL_law_782 : decode cL_law 782 = .ok (.iconst 0, 1) := by decide +kernel
theorem dL_law_783 : decode cL_law 783 = .ok (.ireturn, 1) := by decide +kernel
theorem dL_law_784 : decode cL_law 784 = .ok (.goto 974, 3) := by decide +kernel
theorem dL_law_787 : decode cL_law 787 = .ok (.aload_n 1, 1) := by decide +kernel
theorem dL_law_788 : decode cL_law 788 = .ok (.aload_n 0, 1) := by decide +kernel
theorem dL_law_789 : decode cL_law 789 = .ok (.iload 4, 2) := by decide +kernel
theorem dL_law_791 : decode cL_law 791 = .ok (.iconst 1, 1) := by decide +kernel
theorem dL_law_792 : decode cL_law 792 = .ok (.iadd, 1) := by decide +kernel
theorem dL_law_793 : decode cL_law 793 = .ok (.iaload, 1) := by decide +kernel
theorem dL_law_794 : decode cL_law 794 = .ok (.aload_n 0, 1) := by decide +kernel
theorem dL_law_795 : decode cL_law 795 = .ok (.iload 4, 2) := by decide +kernel
theorem dL_law_797 : decode cL_law 797 = .ok (.iconst 2, 1) := by decide +kernel
theorem dL_law_798 : decode cL_law 798 = .ok (.iadd, 1) := by decide +kernel
theorem dL_law_799 : decode cL_law 799 = .ok (.iaload, 1) := by decide +kernel
theorem dL_law_800 : decode cL_law 800 = .ok (.ifCond .eq 7, 3) := by decide +kernel
theorem dL_law_803 : decode cL_law 803 = .ok (.iconst 1, 1) := by decide +kernel
theorem dL_law_804 : decode cL_law 804 = .ok (.goto 4, 3) := by decide +kernel
theorem dL_law_807 : decode cL_law 807 = .ok (.iconst 0, 1) := by decide +kernel
theorem dL_law_808 : decode cL_law 808 = .ok (.aload_n 0, 1) := by decide +kernel
theorem dL_law_809 : decode cL_law 809 = .ok (.iload 4, 2) := by decide +kernel
theorem dL_law_811 : decode cL_law 811 = .ok (.iconst 3, 1) := by decide +kernel
theorem dL_law_812 : decode cL_law 812 = .ok (.iadd, 1) := by decide +kernel
theorem dL_law_813 : decode cL_law 813 = .ok (.iaload, 1) := by decide +kernel
theorem dL_law_814 : decode cL_law 814 = .ok (.ifCond .eq 7, 3) := by decide +kernel
theorem dL_law_817 : decode cL_law 817 = .ok (.iconst 1, 1) := by decide +kernel
theorem dL_law_818 : decode cL_law 818 = .ok (.goto 4, 3) := by decide +kernel
theorem dL_law_821 : decode cL_law 821 = .ok (.iconst 0, 1) := by decide +kernel
theorem dL_law_822 : decode cL_law 822 = .ok (.aload_n 3, 1) := by decide +kernel
theorem dL_law_823 : decode cL_law 823 = .ok (.invokestatic 128, 3) := by decide +kernel
theorem dL_law_826 : decode cL_law 826 = .ok (.istore 5, 2) := by decide +kernel
theorem dL_law_828 : decode cL_law 828 = .ok (.aload_n 2, 1) := by decide +kernel
theorem dL_law_829 : decode cL_law 829 = .ok (.aload_n 0, 1) := by decide +kernel
theorem dL_law_830 : decode cL_law 830 = .ok (.iload 4, 2) := by decide +kernel
theorem dL_law_832 : decode cL_law 832 = .ok (.iconst 1, 1) := by decide +kernel
theorem dL_law_833 : decode cL_law 833 = .ok (.iadd, 1) := by decide +kernel
theorem dL_law_834 : decode cL_law 834 = .ok (.iaload, 1) := by decide +kernel
theorem dL_law_835 : decode cL_law 835 = .ok (.aload_n 0, 1) := by decide +kernel
theorem dL_law_836 : decode cL_law 836 = .ok (.iload 4, 2) := by decide +kernel
theorem dL_law_838 : decode cL_law 838 = .ok (.iconst 2, 1) := by decide +kernel
theorem dL_law_839 : decode cL_law 839 = .ok (.iadd, 1) := by decide +kernel
theorem dL_law_840 : decode cL_law 840 = .ok (.iaload, 1) := by decide +kernel
theorem dL_law_841 : decode cL_law 841 = .ok (.ifCond .eq 7, 3) := by decide +kernel
theorem dL_law_844 : decode cL_law 844 = .ok (.iconst 1, 1) := by decide +kernel
theorem dL_law_845 : decode cL_law 845 = .ok (.goto 4, 3) := by decide +kernel
theorem dL_law_848 : decode cL_law 848 = .ok (.iconst 0, 1) := by decide +kernel
theorem dL_law_849 : decode cL_law 849 = .ok (.aload_n 0, 1) := by decide +kernel
theorem dL_law_850 : decode cL_law 850 = .ok (.iload 4, 2) := by decide +kernel
theorem dL_law_852 : decode cL_law 852 = .ok (.iconst 3, 1) := by decide +kernel
theorem dL_law_853 : decode cL_law 853 = .ok (.iadd, 1) := by decide +kernel
theorem dL_law_854 : decode cL_law 854 = .ok (.iaload, 1) := by decide +kernel
theorem dL_law_855 : decode cL_law 855 = .ok (.ifCond .eq 7, 3) := by decide +kernel
theorem dL_law_858 : decode cL_law 858 = .ok (.iconst 1, 1) := by decide +kernel
theorem dL_law_859 : decode cL_law 859 = .ok (.goto 4, 3) := by decide +kernel
theorem dL_law_862 : decode cL_law 862 = .ok (.iconst 0, 1) := by decide +kernel
theorem dL_law_863 : decode cL_law 863 = .ok (.invokevirtual 131, 3) := by decide +kernel
theorem dL_law_866 : decode cL_law 866 = .ok (.istore 6, 2) := by decide +kernel
theorem dL_law_868 : decode cL_law 868 = .ok (.aload_n 2, 1) := by decide +kernel
theorem dL_law_869 : decode cL_law 869 = .ok (.invokevirtual 97, 3) := by decide +kernel
theorem dL_law_872 : decode cL_law 872 = .ok (.iload 5, 2) := by decide +kernel
theorem dL_law_874 : decode cL_law 874 = .ok (.if_icmp .eq 5, 3) := by decide +kernel
theorem dL_law_877 : decode cL_law 877 = .ok (.iconst 0, 1) := by decide +kernel
theorem dL_law_878 : decode cL_law 878 = .ok (.ireturn, 1) := by decide +kernel
theorem dL_law_879 : decode cL_law 879 = .ok (.iload 5, 2) := by decide +kernel
theorem dL_law_881 : decode cL_law 881 = .ok (.ifCond .ne 22, 3) := by decide +kernel
theorem dL_law_884 : decode cL_law 884 = .ok (.aload_n 3, 1) := by decide +kernel
theorem dL_law_885 : decode cL_law 885 = .ok (.iconst 0, 1) := by decide +kernel
theorem dL_law_886 : decode cL_law 886 = .ok (.laload, 1) := by decide +kernel
theorem dL_law_887 : decode cL_law 887 = .ok (.iload 6, 2) := by decide +kernel
theorem dL_law_889 : decode cL_law 889 = .ok (.ifCond .eq 7, 3) := by decide +kernel
theorem dL_law_892 : decode cL_law 892 = .ok (.lconst 1, 1) := by decide +kernel
theorem dL_law_893 : decode cL_law 893 = .ok (.goto 4, 3) := by decide +kernel
theorem dL_law_896 : decode cL_law 896 = .ok (.lconst 0, 1) := by decide +kernel
theorem dL_law_897 : decode cL_law 897 = .ok (.lcmp, 1) := by decide +kernel
theorem dL_law_898 : decode cL_law 898 = .ok (.ifCond .eq 5, 3) := by decide +kernel
theorem dL_law_901 : decode cL_law 901 = .ok (.iconst 0, 1) := by decide +kernel
theorem dL_law_902 : decode cL_law 902 = .ok (.ireturn, 1) := by decide +kernel
theorem dL_law_903 : decode cL_law 903 = .ok (.goto 855, 3) := by decide +kernel
theorem dL_law_906 : decode cL_law 906 = .ok (.aload_n 1, 1) := by decide +kernel
theorem dL_law_907 : decode cL_law 907 = .ok (.aload_n 0, 1) := by decide +kernel
theorem dL_law_908 : decode cL_law 908 = .ok (.iload 4, 2) := by decide +kernel
theorem dL_law_910 : decode cL_law 910 = .ok (.iconst 1, 1) := by decide +kernel
theorem dL_law_911 : decode cL_law 911 = .ok (.iadd, 1) := by decide +kernel
theorem dL_law_912 : decode cL_law 912 = .ok (.iaload, 1) := by decide +kernel
theorem dL_law_913 : decode cL_law 913 = .ok (.ifCond .eq 7, 3) := by decide +kernel
theorem dL_law_916 : decode cL_law 916 = .ok (.iconst 1, 1) := by decide +kernel
theorem dL_law_917 : decode cL_law 917 = .ok (.goto 4, 3) := by decide +kernel
theorem dL_law_920 : decode cL_law 920 = .ok (.iconst 0, 1) := by decide +kernel
theorem dL_law_921 : decode cL_law 921 = .ok (.invokevirtual 132, 3) := by decide +kernel
theorem dL_law_924 : decode cL_law 924 = .ok (.aload_n 2, 1) := by decide +kernel
theorem dL_law_925 : decode cL_law 925 = .ok (.aload_n 0, 1) := by decide +kernel
theorem dL_law_926 : decode cL_law 926 = .ok (.iload 4, 2) := by decide +kernel
theorem dL_law_928 : decode cL_law 928 = .ok (.iconst 1, 1) := by decide +kernel
theorem dL_law_929 : decode cL_law 929 = .ok (.iadd, 1) := by decide +kernel
theorem dL_law_930 : decode cL_law 930 = .ok (.iaload, 1) := by decide +kernel
theorem dL_law_931 : decode cL_law 931 = .ok (.ifCond .eq 7, 3) := by decide +kernel
theorem dL_law_934 : decode cL_law 934 = .ok (.iconst 1, 1) := by decide +kernel
theorem dL_law_935 : decode cL_law 935 = .ok (.goto 4, 3) := by decide +kernel
theorem dL_law_938 : decode cL_law 938 = .ok (.iconst 0, 1) := by decide +kernel
theorem dL_law_939 : decode cL_law 939 = .ok (.invokevirtual 136, 3) := by decide +kernel
theorem dL_law_942 : decode cL_law 942 = .ok (.if_icmp .eq 816, 3) := by decide +kernel
theorem dL_law_945 : decode cL_law 945 = .ok (.iconst 0, 1) := by decide +kernel
theorem dL_law_946 : decode cL_law 946 = .ok (.ireturn, 1) := by decide +kernel
theorem dL_law_947 : decode cL_law 947 = .ok (.aload_n 1, 1) := by decide +kernel
theorem dL_law_948 : decode cL_law 948 = .ok (.aload_n 0, 1) := by decide +kernel
theorem dL_law_949 : decode cL_law 949 = .ok (.iload 4, 2) := by decide +kernel
theorem dL_law_951 : decode cL_law 951 = .ok (.iconst 1, 1) := by decide +kernel
theorem dL_law_952 : decode cL_law 952 = .ok (.iadd, 1) := by decide +kernel
theorem dL_law_953 : decode cL_law 953 = .ok (.iaload, 1) := by decide +kernel
theorem dL_law_954 : decode cL_law 954 = .ok (.aload_n 3, 1) := by decide +kernel
theorem dL_law_955 : decode cL_law 955 = .ok (.invokestatic 137, 3) := by decide +kernel
theorem dL_law_958 : decode cL_law 958 = .ok (.istore 5, 2) := by decide +kernel
theorem dL_law_960 : decode cL_law 960 = .ok (.aload_n 2, 1) := by decide +kernel
theorem dL_law_961 : decode cL_law 961 = .ok (.aload_n 0, 1) := by decide +kernel
theorem dL_law_962 : decode cL_law 962 = .ok (.iload 4, 2) := by decide +kernel
theorem dL_law_964 : decode cL_law 964 = .ok (.iconst 1, 1) := by decide +kernel
theorem dL_law_965 : decode cL_law 965 = .ok (.iadd, 1) := by decide +kernel
theorem dL_law_966 : decode cL_law 966 = .ok (.iaload, 1) := by decide +kernel
theorem dL_law_967 : decode cL_law 967 = .ok (.invokevirtual 139, 3) := by decide +kernel
theorem dL_law_970 : decode cL_law 970 = .ok (.istore 6, 2) := by decide +kernel
theorem dL_law_972 : decode cL_law 972 = .ok (.aload_n 2, 1) := by decide +kernel
theorem dL_law_973 : decode cL_law 973 = .ok (.invokevirtual 97, 3) := by decide +kernel
theorem dL_law_976 : decode cL_law 976 = .ok (.iload 5, 2) := by decide +kernel
theorem dL_law_978 : decode cL_law 978 = .ok (.if_icmp .eq 5, 3) := by decide +kernel
theorem dL_law_981 : decode cL_law 981 = .ok (.iconst 0, 1) := by decide +kernel
theorem dL_law_982 : decode cL_law 982 = .ok (.ireturn, 1) := by decide +kernel
theorem dL_law_983 : decode cL_law 983 = .ok (.iload 5, 2) := by decide +kernel
theorem dL_law_985 : decode cL_law 985 = .ok (.ifCond .ne 15, 3) := by decide +kernel
theorem dL_law_988 : decode cL_law 988 = .ok (.aload_n 3, 1) := by decide +kernel
theorem dL_law_989 : decode cL_law 989 = .ok (.iconst 0, 1) := by decide +kernel
theorem dL_law_990 : decode cL_law 990 = .ok (.laload, 1) := by decide +kernel
theorem dL_law_991 : decode cL_law 991 = .ok (.iload 6, 2) := by decide +kernel
theorem dL_law_993 : decode cL_law 993 = .ok (.i2l, 1) := by decide +kernel
theorem dL_law_994 : decode cL_law 994 = .ok (.lcmp, 1) := by decide +kernel
theorem dL_law_995 : decode cL_law 995 = .ok (.ifCond .eq 5, 3) := by decide +kernel
theorem dL_law_998 : decode cL_law 998 = .ok (.iconst 0, 1) := by decide +kernel
theorem dL_law_999 : decode cL_law 999 = .ok (.ireturn, 1) := by decide +kernel
theorem dL_law_1000 : decode cL_law 1000 = .ok (.goto 758, 3) := by decide +kernel
theorem dL_law_1003 : decode cL_law 1003 = .ok (.aload_n 1, 1) := by decide +kernel
theorem dL_law_1004 : decode cL_law 1004 = .ok (.aload_n 0, 1) := by decide +kernel
theorem dL_law_1005 : decode cL_law 1005 = .ok (.iload 4, 2) := by decide +kernel
theorem dL_law_1007 : decode cL_law 1007 = .ok (.iconst 1, 1) := by decide +kernel
theorem dL_law_1008 : decode cL_law 1008 = .ok (.iadd, 1) := by decide +kernel
theorem dL_law_1009 : decode cL_law 1009 = .ok (.iaload, 1) := by decide +kernel
theorem dL_law_1010 : decode cL_law 1010 = .ok (.aload_n 0, 1) := by decide +kernel
theorem dL_law_1011 : decode cL_law 1011 = .ok (.iload 4, 2) := by decide +kernel
theorem dL_law_1013 : decode cL_law 1013 = .ok (.iconst 2, 1) := by decide +kernel
theorem dL_law_1014 : decode cL_law 1014 = .ok (.iadd, 1) := by decide +kernel
theorem dL_law_1015 : decode cL_law 1015 = .ok (.iaload, 1) := by decide +kernel
theorem dL_law_1016 : decode cL_law 1016 = .ok (.aload_n 3, 1) := by decide +kernel
theorem dL_law_1017 : decode cL_law 1017 = .ok (.invokestatic 140, 3) := by decide +kernel
theorem dL_law_1020 : decode cL_law 1020 = .ok (.istore 5, 2) := by decide +kernel
theorem dL_law_1022 : decode cL_law 1022 = .ok (.aload_n 2, 1) := by decide +kernel
theorem dL_law_1023 : decode cL_law 1023 = .ok (.aload_n 0, 1) := by decide +kernel
theorem dL_law_1024 : decode cL_law 1024 = .ok (.iload 4, 2) := by decide +kernel
theorem dL_law_1026 : decode cL_law 1026 = .ok (.iconst 1, 1) := by decide +kernel
theorem dL_law_1027 : decode cL_law 1027 = .ok (.iadd, 1) := by decide +kernel
theorem dL_law_1028 : decode cL_law 1028 = .ok (.iaload, 1) := by decide +kernel
theorem dL_law_1029 : decode cL_law 1029 = .ok (.aload_n 0, 1) := by decide +kernel
theorem dL_law_1030 : decode cL_law 1030 = .ok (.iload 4, 2) := by decide +kernel
theorem dL_law_1032 : decode cL_law 1032 = .ok (.iconst 2, 1) := by decide +kernel
theorem dL_law_1033 : decode cL_law 1033 = .ok (.iadd, 1) := by decide +kernel
theorem dL_law_1034 : decode cL_law 1034 = .ok (.iaload, 1) := by decide +kernel
theorem dL_law_1035 : decode cL_law 1035 = .ok (.invokevirtual 142, 3) := by decide +kernel
theorem dL_law_1038 : decode cL_law 1038 = .ok (.istore 6, 2) := by decide +kernel
theorem dL_law_1040 : decode cL_law 1040 = .ok (.aload_n 2, 1) := by decide +kernel
theorem dL_law_1041 : decode cL_law 1041 = .ok (.invokevirtual 97, 3) := by decide +kernel
theorem dL_law_1044 : decode cL_law 1044 = .ok (.iload 5, 2) := by decide +kernel
theorem dL_law_1046 : decode cL_law 1046 = .ok (.if_icmp .eq 5, 3) := by decide +kernel
theorem dL_law_1049 : decode cL_law 1049 = .ok (.iconst 0, 1) := by decide +kernel
theorem dL_law_1050 : decode cL_law 1050 = .ok (.ireturn, 1) := by decide +kernel
theorem dL_law_1051 : decode cL_law 1051 = .ok (.iload 5, 2) := by decide +kernel
theorem dL_law_1053 : decode cL_law 1053 = .ok (.ifCond .ne 15, 3) := by decide +kernel
theorem dL_law_1056 : decode cL_law 1056 = .ok (.aload_n 3, 1) := by decide +kernel
theorem dL_law_1057 : decode cL_law 1057 = .ok (.iconst 0, 1) := by decide +kernel
theorem dL_law_1058 : decode cL_law 1058 = .ok (.laload, 1) := by decide +kernel
theorem dL_law_1059 : decode cL_law 1059 = .ok (.iload 6, 2) := by decide +kernel
theorem dL_law_1061 : decode cL_law 1061 = .ok (.i2l, 1) := by decide +kernel
theorem dL_law_1062 : decode cL_law 1062 = .ok (.lcmp, 1) := by decide +kernel
theorem dL_law_1063 : decode cL_law 1063 = .ok (.ifCond .eq 5, 3) := by decide +kernel
theorem dL_law_1066 : decode cL_law 1066 = .ok (.iconst 0, 1) := by decide +kernel
theorem dL_law_1067 : decode cL_law 1067 = .ok (.ireturn, 1) := by decide +kernel
theorem dL_law_1068 : decode cL_law 1068 = .ok (.goto 690, 3) := by decide +kernel
theorem dL_law_1071 : decode cL_law 1071 = .ok (.aload_n 1, 1) := by decide +kernel
theorem dL_law_1072 : decode cL_law 1072 = .ok (.aload_n 0, 1) := by decide +kernel
theorem dL_law_1073 : decode cL_law 1073 = .ok (.iload 4, 2) := by decide +kernel
theorem dL_law_1075 : decode cL_law 1075 = .ok (.iconst 1, 1) := by decide +kernel
theorem dL_law_1076 : decode cL_law 1076 = .ok (.iadd, 1) := by decide +kernel
theorem dL_law_1077 : decode cL_law 1077 = .ok (.iaload, 1) := by decide +kernel
theorem dL_law_1078 : decode cL_law 1078 = .ok (.aload_n 3, 1) := by decide +kernel
theorem dL_law_1079 : decode cL_law 1079 = .ok (.invokestatic 143, 3) := by decide +kernel
theorem dL_law_1082 : decode cL_law 1082 = .ok (.istore 5, 2) := by decide +kernel
theorem dL_law_1084 : decode cL_law 1084 = .ok (.aload_n 2, 1) := by decide +kernel
theorem dL_law_1085 : decode cL_law 1085 = .ok (.aload_n 0, 1) := by decide +kernel
theorem dL_law_1086 : decode cL_law 1086 = .ok (.iload 4, 2) := by decide +kernel
theorem dL_law_1088 : decode cL_law 1088 = .ok (.iconst 1, 1) := by decide +kernel
theorem dL_law_1089 : decode cL_law 1089 = .ok (.iadd, 1) := by decide +kernel
theorem dL_law_1090 : decode cL_law 1090 = .ok (.iaload, 1) := by decide +kernel
theorem dL_law_1091 : decode cL_law 1091 = .ok (.invokevirtual 145, 3) := by decide +kernel
theorem dL_law_1094 : decode cL_law 1094 = .ok (.istore 6, 2) := by decide +kernel
theorem dL_law_1096 : decode cL_law 1096 = .ok (.aload_n 2, 1) := by decide +kernel
theorem dL_law_1097 : decode cL_law 1097 = .ok (.invokevirtual 97, 3) := by decide +kernel
theorem dL_law_1100 : decode cL_law 1100 = .ok (.iload 5, 2) := by decide +kernel
theorem dL_law_1102 : decode cL_law 1102 = .ok (.if_icmp .eq 5, 3) := by decide +kernel
theorem dL_law_1105 : decode cL_law 1105 = .ok (.iconst 0, 1) := by decide +kernel
theorem dL_law_1106 : decode cL_law 1106 = .ok (.ireturn, 1) := by decide +kernel
theorem dL_law_1107 : decode cL_law 1107 = .ok (.iload 5, 2) := by decide +kernel
theorem dL_law_1109 : decode cL_law 1109 = .ok (.ifCond .ne 15, 3) := by decide +kernel
theorem dL_law_1112 : decode cL_law 1112 = .ok (.aload_n 3, 1) := by decide +kernel
theorem dL_law_1113 : decode cL_law 1113 = .ok (.iconst 0, 1) := by decide +kernel
theorem dL_law_1114 : decode cL_law 1114 = .ok (.laload, 1) := by decide +kernel
theorem dL_law_1115 : decode cL_law 1115 = .ok (.iload 6, 2) := by decide +kernel
theorem dL_law_1117 : decode cL_law 1117 = .ok (.i2l, 1) := by decide +kernel
theorem dL_law_1118 : decode cL_law 1118 = .ok (.lcmp, 1) := by decide +kernel
theorem dL_law_1119 : decode cL_law 1119 = .ok (.ifCond .eq 5, 3) := by decide +kernel
theorem dL_law_1122 : decode cL_law 1122 = .ok (.iconst 0, 1) := by decide +kernel
theorem dL_law_1123 : decode cL_law 1123 = .ok (.ireturn, 1) := by decide +kernel
theorem dL_law_1124 : decode cL_law 1124 = .ok (.goto 634, 3) := by decide +kernel
theorem dL_law_1127 : decode cL_law 1127 = .ok (.aload_n 1, 1) := by decide +kernel
theorem dL_law_1128 : decode cL_law 1128 = .ok (.aload_n 0, 1) := by decide +kernel
theorem dL_law_1129 : decode cL_law 1129 = .ok (.iload 4, 2) := by decide +kernel
theorem dL_law_1131 : decode cL_law 1131 = .ok (.iconst 1, 1) := by decide +kernel
theorem dL_law_1132 : decode cL_law 1132 = .ok (.iadd, 1) := by decide +kernel
theorem dL_law_1133 : decode cL_law 1133 = .ok (.iaload, 1) := by decide +kernel
theorem dL_law_1134 : decode cL_law 1134 = .ok (.aload_n 0, 1) := by decide +kernel
theorem dL_law_1135 : decode cL_law 1135 = .ok (.iload 4, 2) := by decide +kernel
theorem dL_law_1137 : decode cL_law 1137 = .ok (.iconst 2, 1) := by decide +kernel
theorem dL_law_1138 : decode cL_law 1138 = .ok (.iadd, 1) := by decide +kernel
theorem dL_law_1139 : decode cL_law 1139 = .ok (.iaload, 1) := by decide +kernel
theorem dL_law_1140 : decode cL_law 1140 = .ok (.aload_n 3, 1) := by decide +kernel
theorem dL_law_1141 : decode cL_law 1141 = .ok (.invokestatic 146, 3) := by decide +kernel
theorem dL_law_1144 : decode cL_law 1144 = .ok (.istore 5, 2) := by decide +kernel
theorem dL_law_1146 : decode cL_law 1146 = .ok (.aload_n 2, 1) := by decide +kernel
theorem dL_law_1147 : decode cL_law 1147 = .ok (.aload_n 0, 1) := by decide +kernel
theorem dL_law_1148 : decode cL_law 1148 = .ok (.iload 4, 2) := by decide +kernel
theorem dL_law_1150 : decode cL_law 1150 = .ok (.iconst 1, 1) := by decide +kernel
theorem dL_law_1151 : decode cL_law 1151 = .ok (.iadd, 1) := by decide +kernel
theorem dL_law_1152 : decode cL_law 1152 = .ok (.iaload, 1) := by decide +kernel
theorem dL_law_1153 : decode cL_law 1153 = .ok (.aload_n 0, 1) := by decide +kernel
theorem dL_law_1154 : decode cL_law 1154 = .ok (.iload 4, 2) := by decide +kernel
theorem dL_law_1156 : decode cL_law 1156 = .ok (.iconst 2, 1) := by decide +kernel
theorem dL_law_1157 : decode cL_law 1157 = .ok (.iadd, 1) := by decide +kernel
theorem dL_law_1158 : decode cL_law 1158 = .ok (.iaload, 1) := by decide +kernel
theorem dL_law_1159 : decode cL_law 1159 = .ok (.invokevirtual 148, 3) := by decide +kernel
theorem dL_law_1162 : decode cL_law 1162 = .ok (.istore 6, 2) := by decide +kernel
theorem dL_law_1164 : decode cL_law 1164 = .ok (.aload_n 2, 1) := by decide +kernel
theorem dL_law_1165 : decode cL_law 1165 = .ok (.invokevirtual 97, 3) := by decide +kernel
theorem dL_law_1168 : decode cL_law 1168 = .ok (.iload 5, 2) := by decide +kernel
theorem dL_law_1170 : decode cL_law 1170 = .ok (.if_icmp .eq 5, 3) := by decide +kernel
theorem dL_law_1173 : decode cL_law 1173 = .ok (.iconst 0, 1) := by decide +kernel
theorem dL_law_1174 : decode cL_law 1174 = .ok (.ireturn, 1) := by decide +kernel
theorem dL_law_1175 : decode cL_law 1175 = .ok (.iload 5, 2) := by decide +kernel
theorem dL_law_1177 : decode cL_law 1177 = .ok (.ifCond .ne 15, 3) := by decide +kernel
theorem dL_law_1180 : decode cL_law 1180 = .ok (.aload_n 3, 1) := by decide +kernel
theorem dL_law_1181 : decode cL_law 1181 = .ok (.iconst 0, 1) := by decide +kernel
theorem dL_law_1182 : decode cL_law 1182 = .ok (.laload, 1) := by decide +kernel
theorem dL_law_1183 : decode cL_law 1183 = .ok (.iload 6, 2) := by decide +kernel
theorem dL_law_1185 : decode cL_law 1185 = .ok (.i2l, 1) := by decide +kernel
theorem dL_law_1186 : decode cL_law 1186 = .ok (.lcmp, 1) := by decide +kernel
theorem dL_law_1187 : decode cL_law 1187 = .ok (.ifCond .eq 5, 3) := by decide +kernel
theorem dL_law_1190 : decode cL_law 1190 = .ok (.iconst 0, 1) := by decide +kernel
theorem dL_law_1191 : decode cL_law 1191 = .ok (.ireturn, 1) := by decide +kernel
theorem dL_law_1192 : decode cL_law 1192 = .ok (.goto 566, 3) := by decide +kernel
theorem dL_law_1195 : decode cL_law 1195 = .ok (.aload_n 1, 1) := by decide +kernel
theorem dL_law_1196 : decode cL_law 1196 = .ok (.aload_n 0, 1) := by decide +kernel
theorem dL_law_1197 : decode cL_law 1197 = .ok (.iload 4, 2) := by decide +kernel
theorem dL_law_1199 : decode cL_law 1199 = .ok (.iconst 1, 1) := by decide +kernel
theorem dL_law_1200 : decode cL_law 1200 = .ok (.iadd, 1) := by decide +kernel
theorem dL_law_1201 : decode cL_law 1201 = .ok (.iaload, 1) := by decide +kernel
theorem dL_law_1202 : decode cL_law 1202 = .ok (.aload_n 0, 1) := by decide +kernel
theorem dL_law_1203 : decode cL_law 1203 = .ok (.iload 4, 2) := by decide +kernel
theorem dL_law_1205 : decode cL_law 1205 = .ok (.iconst 2, 1) := by decide +kernel
theorem dL_law_1206 : decode cL_law 1206 = .ok (.iadd, 1) := by decide +kernel
theorem dL_law_1207 : decode cL_law 1207 = .ok (.iaload, 1) := by decide +kernel
theorem dL_law_1208 : decode cL_law 1208 = .ok (.aload_n 3, 1) := by decide +kernel
theorem dL_law_1209 : decode cL_law 1209 = .ok (.invokestatic 149, 3) := by decide +kernel
theorem dL_law_1212 : decode cL_law 1212 = .ok (.istore 5, 2) := by decide +kernel
theorem dL_law_1214 : decode cL_law 1214 = .ok (.aload_n 2, 1) := by decide +kernel
theorem dL_law_1215 : decode cL_law 1215 = .ok (.aload_n 0, 1) := by decide +kernel
theorem dL_law_1216 : decode cL_law 1216 = .ok (.iload 4, 2) := by decide +kernel
theorem dL_law_1218 : decode cL_law 1218 = .ok (.iconst 1, 1) := by decide +kernel
theorem dL_law_1219 : decode cL_law 1219 = .ok (.iadd, 1) := by decide +kernel
theorem dL_law_1220 : decode cL_law 1220 = .ok (.iaload, 1) := by decide +kernel
theorem dL_law_1221 : decode cL_law 1221 = .ok (.aload_n 0, 1) := by decide +kernel
theorem dL_law_1222 : decode cL_law 1222 = .ok (.iload 4, 2) := by decide +kernel
theorem dL_law_1224 : decode cL_law 1224 = .ok (.iconst 2, 1) := by decide +kernel
theorem dL_law_1225 : decode cL_law 1225 = .ok (.iadd, 1) := by decide +kernel
theorem dL_law_1226 : decode cL_law 1226 = .ok (.iaload, 1) := by decide +kernel
theorem dL_law_1227 : decode cL_law 1227 = .ok (.invokevirtual 151, 3) := by decide +kernel
theorem dL_law_1230 : decode cL_law 1230 = .ok (.istore 6, 2) := by decide +kernel
theorem dL_law_1232 : decode cL_law 1232 = .ok (.aload_n 2, 1) := by decide +kernel
theorem dL_law_1233 : decode cL_law 1233 = .ok (.invokevirtual 97, 3) := by decide +kernel
theorem dL_law_1236 : decode cL_law 1236 = .ok (.iload 5, 2) := by decide +kernel
theorem dL_law_1238 : decode cL_law 1238 = .ok (.if_icmp .eq 5, 3) := by decide +kernel
theorem dL_law_1241 : decode cL_law 1241 = .ok (.iconst 0, 1) := by decide +kernel
theorem dL_law_1242 : decode cL_law 1242 = .ok (.ireturn, 1) := by decide +kernel
theorem dL_law_1243 : decode cL_law 1243 = .ok (.iload 5, 2) := by decide +kernel
theorem dL_law_1245 : decode cL_law 1245 = .ok (.ifCond .ne 15, 3) := by decide +kernel
theorem dL_law_1248 : decode cL_law 1248 = .ok (.aload_n 3, 1) := by decide +kernel
theorem dL_law_1249 : decode cL_law 1249 = .ok (.iconst 0, 1) := by decide +kernel
theorem dL_law_1250 : decode cL_law 1250 = .ok (.laload, 1) := by decide +kernel
theorem dL_law_1251 : decode cL_law 1251 = .ok (.iload 6, 2) := by decide +kernel
theorem dL_law_1253 : decode cL_law 1253 = .ok (.i2l, 1) := by decide +kernel
theorem dL_law_1254 : decode cL_law 1254 = .ok (.lcmp, 1) := by decide +kernel
theorem dL_law_1255 : decode cL_law 1255 = .ok (.ifCond .eq 5, 3) := by decide +kernel
theorem dL_law_1258 : decode cL_law 1258 = .ok (.iconst 0, 1) := by decide +kernel
theorem dL_law_1259 : decode cL_law 1259 = .ok (.ireturn, 1) := by decide +kernel
theorem dL_law_1260 : decode cL_law 1260 = .ok (.goto 498, 3) := by decide +kernel
theorem dL_law_1263 : decode cL_law 1263 = .ok (.aload_n 1, 1) := by decide +kernel
theorem dL_law_1264 : decode cL_law 1264 = .ok (.aload_n 0, 1) := by decide +kernel
theorem dL_law_1265 : decode cL_law 1265 = .ok (.iload 4, 2) := by decide +kernel
theorem dL_law_1267 : decode cL_law 1267 = .ok (.iconst 1, 1) := by decide +kernel
theorem dL_law_1268 : decode cL_law 1268 = .ok (.iadd, 1) := by decide +kernel
theorem dL_law_1269 : decode cL_law 1269 = .ok (.iaload, 1) := by decide +kernel
theorem dL_law_1270 : decode cL_law 1270 = .ok (.aload_n 3, 1) := by decide +kernel
theorem dL_law_1271 : decode cL_law 1271 = .ok (.invokestatic 152, 3) := by decide +kernel
theorem dL_law_1274 : decode cL_law 1274 = .ok (.istore 5, 2) := by decide +kernel
theorem dL_law_1276 : decode cL_law 1276 = .ok (.aload_n 2, 1) := by decide +kernel
theorem dL_law_1277 : decode cL_law 1277 = .ok (.aload_n 0, 1) := by decide +kernel
theorem dL_law_1278 : decode cL_law 1278 = .ok (.iload 4, 2) := by decide +kernel
theorem dL_law_1280 : decode cL_law 1280 = .ok (.iconst 1, 1) := by decide +kernel
theorem dL_law_1281 : decode cL_law 1281 = .ok (.iadd, 1) := by decide +kernel
theorem dL_law_1282 : decode cL_law 1282 = .ok (.iaload, 1) := by decide +kernel
theorem dL_law_1283 : decode cL_law 1283 = .ok (.invokevirtual 154, 3) := by decide +kernel
theorem dL_law_1286 : decode cL_law 1286 = .ok (.istore 6, 2) := by decide +kernel
theorem dL_law_1288 : decode cL_law 1288 = .ok (.aload_n 2, 1) := by decide +kernel
theorem dL_law_1289 : decode cL_law 1289 = .ok (.invokevirtual 97, 3) := by decide +kernel
theorem dL_law_1292 : decode cL_law 1292 = .ok (.iload 5, 2) := by decide +kernel
theorem dL_law_1294 : decode cL_law 1294 = .ok (.if_icmp .eq 5, 3) := by decide +kernel
theorem dL_law_1297 : decode cL_law 1297 = .ok (.iconst 0, 1) := by decide +kernel
theorem dL_law_1298 : decode cL_law 1298 = .ok (.ireturn, 1) := by decide +kernel
theorem dL_law_1299 : decode cL_law 1299 = .ok (.iload 5, 2) := by decide +kernel
theorem dL_law_1301 : decode cL_law 1301 = .ok (.ifCond .ne 15, 3) := by decide +kernel
theorem dL_law_1304 : decode cL_law 1304 = .ok (.aload_n 3, 1) := by decide +kernel
theorem dL_law_1305 : decode cL_law 1305 = .ok (.iconst 0, 1) := by decide +kernel
theorem dL_law_1306 : decode cL_law 1306 = .ok (.laload, 1) := by decide +kernel
theorem dL_law_1307 : decode cL_law 1307 = .ok (.iload 6, 2) := by decide +kernel
theorem dL_law_1309 : decode cL_law 1309 = .ok (.i2l, 1) := by decide +kernel
theorem dL_law_1310 : decode cL_law 1310 = .ok (.lcmp, 1) := by decide +kernel
theorem dL_law_1311 : decode cL_law 1311 = .ok (.ifCond .eq 5, 3) := by decide +kernel
theorem dL_law_1314 : decode cL_law 1314 = .ok (.iconst 0, 1) := by decide +kernel
theorem dL_law_1315 : decode cL_law 1315 = .ok (.ireturn, 1) := by decide +kernel
theorem dL_law_1316 : decode cL_law 1316 = .ok (.goto 442, 3) := by decide +kernel
theorem dL_law_1319 : decode cL_law 1319 = .ok (.aload_n 1, 1) := by decide +kernel
theorem dL_law_1320 : decode cL_law 1320 = .ok (.aload_n 0, 1) := by decide +kernel
theorem dL_law_1321 : decode cL_law 1321 = .ok (.iload 4, 2) := by decide +kernel
theorem dL_law_1323 : decode cL_law 1323 = .ok (.iconst 1, 1) := by decide +kernel
theorem dL_law_1324 : decode cL_law 1324 = .ok (.iadd, 1) := by decide +kernel
theorem dL_law_1325 : decode cL_law 1325 = .ok (.iaload, 1) := by decide +kernel
theorem dL_law_1326 : decode cL_law 1326 = .ok (.aload_n 3, 1) := by decide +kernel
theorem dL_law_1327 : decode cL_law 1327 = .ok (.invokestatic 155, 3) := by decide +kernel
theorem dL_law_1330 : decode cL_law 1330 = .ok (.istore 5, 2) := by decide +kernel
theorem dL_law_1332 : decode cL_law 1332 = .ok (.aload_n 2, 1) := by decide +kernel
theorem dL_law_1333 : decode cL_law 1333 = .ok (.aload_n 0, 1) := by decide +kernel
theorem dL_law_1334 : decode cL_law 1334 = .ok (.iload 4, 2) := by decide +kernel
theorem dL_law_1336 : decode cL_law 1336 = .ok (.iconst 1, 1) := by decide +kernel
theorem dL_law_1337 : decode cL_law 1337 = .ok (.iadd, 1) := by decide +kernel
theorem dL_law_1338 : decode cL_law 1338 = .ok (.iaload, 1) := by decide +kernel
theorem dL_law_1339 : decode cL_law 1339 = .ok (.invokevirtual 157, 3) := by decide +kernel
theorem dL_law_1342 : decode cL_law 1342 = .ok (.istore 6, 2) := by decide +kernel
theorem dL_law_1344 : decode cL_law 1344 = .ok (.aload_n 2, 1) := by decide +kernel
theorem dL_law_1345 : decode cL_law 1345 = .ok (.invokevirtual 97, 3) := by decide +kernel
theorem dL_law_1348 : decode cL_law 1348 = .ok (.iload 5, 2) := by decide +kernel
theorem dL_law_1350 : decode cL_law 1350 = .ok (.if_icmp .eq 5, 3) := by decide +kernel
theorem dL_law_1353 : decode cL_law 1353 = .ok (.iconst 0, 1) := by decide +kernel
theorem dL_law_1354 : decode cL_law 1354 = .ok (.ireturn, 1) := by decide +kernel
theorem dL_law_1355 : decode cL_law 1355 = .ok (.iload 5, 2) := by decide +kernel
theorem dL_law_1357 : decode cL_law 1357 = .ok (.ifCond .ne 15, 3) := by decide +kernel
theorem dL_law_1360 : decode cL_law 1360 = .ok (.aload_n 3, 1) := by decide +kernel
theorem dL_law_1361 : decode cL_law 1361 = .ok (.iconst 0, 1) := by decide +kernel
theorem dL_law_1362 : decode cL_law 1362 = .ok (.laload, 1) := by decide +kernel
theorem dL_law_1363 : decode cL_law 1363 = .ok (.iload 6, 2) := by decide +kernel
theorem dL_law_1365 : decode cL_law 1365 = .ok (.i2l, 1) := by decide +kernel
theorem dL_law_1366 : decode cL_law 1366 = .ok (.lcmp, 1) := by decide +kernel
theorem dL_law_1367 : decode cL_law 1367 = .ok (.ifCond .eq 5, 3) := by decide +kernel
theorem dL_law_1370 : decode cL_law 1370 = .ok (.iconst 0, 1) := by decide +kernel
theorem dL_law_1371 : decode cL_law 1371 = .ok (.ireturn, 1) := by decide +kernel
theorem dL_law_1372 : decode cL_law 1372 = .ok (.goto 386, 3) := by decide +kernel
theorem dL_law_1375 : decode cL_law 1375 = .ok (.aload_n 1, 1) := by decide +kernel
theorem dL_law_1376 : decode cL_law 1376 = .ok (.aload_n 0, 1) := by decide +kernel
theorem dL_law_1377 : decode cL_law 1377 = .ok (.iload 4, 2) := by decide +kernel
theorem dL_law_1379 : decode cL_law 1379 = .ok (.iconst 1, 1) := by decide +kernel
theorem dL_law_1380 : decode cL_law 1380 = .ok (.iadd, 1) := by decide +kernel
theorem dL_law_1381 : decode cL_law 1381 = .ok (.iaload, 1) := by decide +kernel
theorem dL_law_1382 : decode cL_law 1382 = .ok (.aload_n 3, 1) := by decide +kernel
theorem dL_law_1383 : decode cL_law 1383 = .ok (.invokestatic 158, 3) := by decide +kernel
theorem dL_law_1386 : decode cL_law 1386 = .ok (.istore 5, 2) := by decide +kernel
theorem dL_law_1388 : decode cL_law 1388 = .ok (.aload_n 2, 1) := by decide +kernel
theorem dL_law_1389 : decode cL_law 1389 = .ok (.aload_n 0, 1) := by decide +kernel
theorem dL_law_1390 : decode cL_law 1390 = .ok (.iload 4, 2) := by decide +kernel
theorem dL_law_1392 : decode cL_law 1392 = .ok (.iconst 1, 1) := by decide +kernel
theorem dL_law_1393 : decode cL_law 1393 = .ok (.iadd, 1) := by decide +kernel
theorem dL_law_1394 : decode cL_law 1394 = .ok (.iaload, 1) := by decide +kernel
theorem dL_law_1395 : decode cL_law 1395 = .ok (.invokevirtual 160, 3) := by decide +kernel
theorem dL_law_1398 : decode cL_law 1398 = .ok (.istore 6, 2) := by decide +kernel
theorem dL_law_1400 : decode cL_law 1400 = .ok (.aload_n 2, 1) := by decide +kernel
theorem dL_law_1401 : decode cL_law 1401 = .ok (.invokevirtual 97, 3) := by decide +kernel
theorem dL_law_1404 : decode cL_law 1404 = .ok (.iload 5, 2) := by decide +kernel
theorem dL_law_1406 : decode cL_law 1406 = .ok (.if_icmp .eq 5, 3) := by decide +kernel
theorem dL_law_1409 : decode cL_law 1409 = .ok (.iconst 0, 1) := by decide +kernel
theorem dL_law_1410 : decode cL_law 1410 = .ok (.ireturn, 1) := by decide +kernel
theorem dL_law_1411 : decode cL_law 1411 = .ok (.iload 5, 2) := by decide +kernel
theorem dL_law_1413 : decode cL_law 1413 = .ok (.ifCond .ne 15, 3) := by decide +kernel
theorem dL_law_1416 : decode cL_law 1416 = .ok (.aload_n 3, 1) := by decide +kernel
theorem dL_law_1417 : decode cL_law 1417 = .ok (.iconst 0, 1) := by decide +kernel
theorem dL_law_1418 : decode cL_law 1418 = .ok (.laload, 1) := by decide +kernel
theorem dL_law_1419 : decode cL_law 1419 = .ok (.iload 6, 2) := by decide +kernel
theorem dL_law_1421 : decode cL_law 1421 = .ok (.i2l, 1) := by decide +kernel
theorem dL_law_1422 : decode cL_law 1422 = .ok (.lcmp, 1) := by decide +kernel
theorem dL_law_1423 : decode cL_law 1423 = .ok (.ifCond .eq 5, 3) := by decide +kernel
theorem dL_law_1426 : decode cL_law 1426 = .ok (.iconst 0, 1) := by decide +kernel
theorem dL_law_1427 : decode cL_law 1427 = .ok (.ireturn, 1) := by decide +kernel
theorem dL_law_1428 : decode cL_law 1428 = .ok (.goto 330, 3) := by decide +kernel
theorem dL_law_1431 : decode cL_law 1431 = .ok (.aload_n 1, 1) := by decide +kernel
theorem dL_law_1432 : decode cL_law 1432 = .ok (.invokevirtual 161, 3) := by decide +kernel
theorem dL_law_1435 : decode cL_law 1435 = .ok (.dstore 5, 2) := by decide +kernel
theorem dL_law_1437 : decode cL_law 1437 = .ok (.aload_n 2, 1) := by decide +kernel
theorem dL_law_1438 : decode cL_law 1438 = .ok (.invokevirtual 165, 3) := by decide +kernel
theorem dL_law_1441 : decode cL_law 1441 = .ok (.dstore 7, 2) := by decide +kernel
theorem dL_law_1443 : decode cL_law 1443 = .ok (.dload 5, 2) := by decide +kernel
theorem dL_law_1445 : decode cL_law 1445 = .ok (.dload 7, 2) := by decide +kernel
theorem dL_law_1447 : decode cL_law 1447 = .ok (.dcmp .l, 1) := by decide +kernel
theorem dL_law_1448 : decode cL_law 1448 = .ok (.ifCond .eq 21, 3) := by decide +kernel
theorem dL_law_1451 : decode cL_law 1451 = .ok (.dload 5, 2) := by decide +kernel
theorem dL_law_1453 : decode cL_law 1453 = .ok (.dload 5, 2) := by decide +kernel
theorem dL_law_1455 : decode cL_law 1455 = .ok (.dcmp .l, 1) := by decide +kernel
theorem dL_law_1456 : decode cL_law 1456 = .ok (.ifCond .eq 11, 3) := by decide +kernel
theorem dL_law_1459 : decode cL_law 1459 = .ok (.dload 7, 2) := by decide +kernel
theorem dL_law_1461 : decode cL_law 1461 = .ok (.dload 7, 2) := by decide +kernel
theorem dL_law_1463 : decode cL_law 1463 = .ok (.dcmp .l, 1) := by decide +kernel
theorem dL_law_1464 : decode cL_law 1464 = .ok (.ifCond .ne 5, 3) := by decide +kernel
theorem dL_law_1467 : decode cL_law 1467 = .ok (.iconst 0, 1) := by decide +kernel
theorem dL_law_1468 : decode cL_law 1468 = .ok (.ireturn, 1) := by decide +kernel
theorem dL_law_1469 : decode cL_law 1469 = .ok (.goto 289, 3) := by decide +kernel
theorem dL_law_1472 : decode cL_law 1472 = .ok (.aload_n 1, 1) := by decide +kernel
theorem dL_law_1473 : decode cL_law 1473 = .ok (.aload_n 0, 1) := by decide +kernel
theorem dL_law_1474 : decode cL_law 1474 = .ok (.iload 4, 2) := by decide +kernel
theorem dL_law_1476 : decode cL_law 1476 = .ok (.iconst 1, 1) := by decide +kernel
theorem dL_law_1477 : decode cL_law 1477 = .ok (.iadd, 1) := by decide +kernel
theorem dL_law_1478 : decode cL_law 1478 = .ok (.iaload, 1) := by decide +kernel
theorem dL_law_1479 : decode cL_law 1479 = .ok (.aload_n 0, 1) := by decide +kernel
theorem dL_law_1480 : decode cL_law 1480 = .ok (.iload 4, 2) := by decide +kernel
theorem dL_law_1482 : decode cL_law 1482 = .ok (.iconst 2, 1) := by decide +kernel
theorem dL_law_1483 : decode cL_law 1483 = .ok (.iadd, 1) := by decide +kernel
theorem dL_law_1484 : decode cL_law 1484 = .ok (.iaload, 1) := by decide +kernel
theorem dL_law_1485 : decode cL_law 1485 = .ok (.aload_n 3, 1) := by decide +kernel
theorem dL_law_1486 : decode cL_law 1486 = .ok (.invokestatic 166, 3) := by decide +kernel
theorem dL_law_1489 : decode cL_law 1489 = .ok (.istore 5, 2) := by decide +kernel
theorem dL_law_1491 : decode cL_law 1491 = .ok (.aload_n 2, 1) := by decide +kernel
theorem dL_law_1492 : decode cL_law 1492 = .ok (.aload_n 0, 1) := by decide +kernel
theorem dL_law_1493 : decode cL_law 1493 = .ok (.iload 4, 2) := by decide +kernel
theorem dL_law_1495 : decode cL_law 1495 = .ok (.iconst 1, 1) := by decide +kernel
theorem dL_law_1496 : decode cL_law 1496 = .ok (.iadd, 1) := by decide +kernel
theorem dL_law_1497 : decode cL_law 1497 = .ok (.iaload, 1) := by decide +kernel
theorem dL_law_1498 : decode cL_law 1498 = .ok (.aload_n 0, 1) := by decide +kernel
theorem dL_law_1499 : decode cL_law 1499 = .ok (.iload 4, 2) := by decide +kernel
theorem dL_law_1501 : decode cL_law 1501 = .ok (.iconst 2, 1) := by decide +kernel
theorem dL_law_1502 : decode cL_law 1502 = .ok (.iadd, 1) := by decide +kernel
theorem dL_law_1503 : decode cL_law 1503 = .ok (.iaload, 1) := by decide +kernel
theorem dL_law_1504 : decode cL_law 1504 = .ok (.invokevirtual 168, 3) := by decide +kernel
theorem dL_law_1507 : decode cL_law 1507 = .ok (.istore 6, 2) := by decide +kernel
theorem dL_law_1509 : decode cL_law 1509 = .ok (.aload_n 2, 1) := by decide +kernel
theorem dL_law_1510 : decode cL_law 1510 = .ok (.invokevirtual 97, 3) := by decide +kernel
theorem dL_law_1513 : decode cL_law 1513 = .ok (.iload 5, 2) := by decide +kernel
theorem dL_law_1515 : decode cL_law 1515 = .ok (.if_icmp .eq 5, 3) := by decide +kernel
theorem dL_law_1518 : decode cL_law 1518 = .ok (.iconst 0, 1) := by decide +kernel
theorem dL_law_1519 : decode cL_law 1519 = .ok (.ireturn, 1) := by decide +kernel
theorem dL_law_1520 : decode cL_law 1520 = .ok (.iload 5, 2) := by decide +kernel
theorem dL_law_1522 : decode cL_law 1522 = .ok (.ifCond .ne 15, 3) := by decide +kernel
theorem dL_law_1525 : decode cL_law 1525 = .ok (.aload_n 3, 1) := by decide +kernel
theorem dL_law_1526 : decode cL_law 1526 = .ok (.iconst 0, 1) := by decide +kernel
theorem dL_law_1527 : decode cL_law 1527 = .ok (.laload, 1) := by decide +kernel
theorem dL_law_1528 : decode cL_law 1528 = .ok (.iload 6, 2) := by decide +kernel
theorem dL_law_1530 : decode cL_law 1530 = .ok (.i2l, 1) := by decide +kernel
theorem dL_law_1531 : decode cL_law 1531 = .ok (.lcmp, 1) := by decide +kernel
theorem dL_law_1532 : decode cL_law 1532 = .ok (.ifCond .eq 5, 3) := by decide +kernel
theorem dL_law_1535 : decode cL_law 1535 = .ok (.iconst 0, 1) := by decide +kernel
theorem dL_law_1536 : decode cL_law 1536 = .ok (.ireturn, 1) := by decide +kernel
theorem dL_law_1537 : decode cL_law 1537 = .ok (.goto 221, 3) := by decide +kernel
theorem dL_law_1540 : decode cL_law 1540 = .ok (.aload_n 1, 1) := by decide +kernel
theorem dL_law_1541 : decode cL_law 1541 = .ok (.aload_n 0, 1) := by decide +kernel
theorem dL_law_1542 : decode cL_law 1542 = .ok (.iload 4, 2) := by decide +kernel
theorem dL_law_1544 : decode cL_law 1544 = .ok (.iconst 1, 1) := by decide +kernel
theorem dL_law_1545 : decode cL_law 1545 = .ok (.iadd, 1) := by decide +kernel
theorem dL_law_1546 : decode cL_law 1546 = .ok (.iaload, 1) := by decide +kernel
theorem dL_law_1547 : decode cL_law 1547 = .ok (.aload_n 0, 1) := by decide +kernel
theorem dL_law_1548 : decode cL_law 1548 = .ok (.iload 4, 2) := by decide +kernel
theorem dL_law_1550 : decode cL_law 1550 = .ok (.iconst 2, 1) := by decide +kernel
theorem dL_law_1551 : decode cL_law 1551 = .ok (.iadd, 1) := by decide +kernel
theorem dL_law_1552 : decode cL_law 1552 = .ok (.iaload, 1) := by decide +kernel
theorem dL_law_1553 : decode cL_law 1553 = .ok (.aload_n 3, 1) := by decide +kernel
theorem dL_law_1554 : decode cL_law 1554 = .ok (.invokestatic 169, 3) := by decide +kernel
theorem dL_law_1557 : decode cL_law 1557 = .ok (.istore 5, 2) := by decide +kernel
theorem dL_law_1559 : decode cL_law 1559 = .ok (.aload_n 2, 1) := by decide +kernel
theorem dL_law_1560 : decode cL_law 1560 = .ok (.aload_n 0, 1) := by decide +kernel
theorem dL_law_1561 : decode cL_law 1561 = .ok (.iload 4, 2) := by decide +kernel
theorem dL_law_1563 : decode cL_law 1563 = .ok (.iconst 1, 1) := by decide +kernel
theorem dL_law_1564 : decode cL_law 1564 = .ok (.iadd, 1) := by decide +kernel
theorem dL_law_1565 : decode cL_law 1565 = .ok (.iaload, 1) := by decide +kernel
theorem dL_law_1566 : decode cL_law 1566 = .ok (.aload_n 0, 1) := by decide +kernel
theorem dL_law_1567 : decode cL_law 1567 = .ok (.iload 4, 2) := by decide +kernel
theorem dL_law_1569 : decode cL_law 1569 = .ok (.iconst 2, 1) := by decide +kernel
theorem dL_law_1570 : decode cL_law 1570 = .ok (.iadd, 1) := by decide +kernel
theorem dL_law_1571 : decode cL_law 1571 = .ok (.iaload, 1) := by decide +kernel
theorem dL_law_1572 : decode cL_law 1572 = .ok (.invokevirtual 171, 3) := by decide +kernel
theorem dL_law_1575 : decode cL_law 1575 = .ok (.istore 6, 2) := by decide +kernel
theorem dL_law_1577 : decode cL_law 1577 = .ok (.aload_n 2, 1) := by decide +kernel
theorem dL_law_1578 : decode cL_law 1578 = .ok (.invokevirtual 97, 3) := by decide +kernel
theorem dL_law_1581 : decode cL_law 1581 = .ok (.iload 5, 2) := by decide +kernel
theorem dL_law_1583 : decode cL_law 1583 = .ok (.if_icmp .eq 5, 3) := by decide +kernel
theorem dL_law_1586 : decode cL_law 1586 = .ok (.iconst 0, 1) := by decide +kernel
theorem dL_law_1587 : decode cL_law 1587 = .ok (.ireturn, 1) := by decide +kernel
theorem dL_law_1588 : decode cL_law 1588 = .ok (.iload 5, 2) := by decide +kernel
theorem dL_law_1590 : decode cL_law 1590 = .ok (.ifCond .ne 15, 3) := by decide +kernel
theorem dL_law_1593 : decode cL_law 1593 = .ok (.aload_n 3, 1) := by decide +kernel
theorem dL_law_1594 : decode cL_law 1594 = .ok (.iconst 0, 1) := by decide +kernel
theorem dL_law_1595 : decode cL_law 1595 = .ok (.laload, 1) := by decide +kernel
theorem dL_law_1596 : decode cL_law 1596 = .ok (.iload 6, 2) := by decide +kernel
theorem dL_law_1598 : decode cL_law 1598 = .ok (.i2l, 1) := by decide +kernel
theorem dL_law_1599 : decode cL_law 1599 = .ok (.lcmp, 1) := by decide +kernel
theorem dL_law_1600 : decode cL_law 1600 = .ok (.ifCond .eq 5, 3) := by decide +kernel
theorem dL_law_1603 : decode cL_law 1603 = .ok (.iconst 0, 1) := by decide +kernel
theorem dL_law_1604 : decode cL_law 1604 = .ok (.ireturn, 1) := by decide +kernel
theorem dL_law_1605 : decode cL_law 1605 = .ok (.goto 153, 3) := by decide +kernel
theorem dL_law_1608 : decode cL_law 1608 = .ok (.aload_n 1, 1) := by decide +kernel
theorem dL_law_1609 : decode cL_law 1609 = .ok (.aload_n 0, 1) := by decide +kernel
theorem dL_law_1610 : decode cL_law 1610 = .ok (.iload 4, 2) := by decide +kernel
theorem dL_law_1612 : decode cL_law 1612 = .ok (.iconst 1, 1) := by decide +kernel
theorem dL_law_1613 : decode cL_law 1613 = .ok (.iadd, 1) := by decide +kernel
theorem dL_law_1614 : decode cL_law 1614 = .ok (.iaload, 1) := by decide +kernel
theorem dL_law_1615 : decode cL_law 1615 = .ok (.aload_n 0, 1) := by decide +kernel
theorem dL_law_1616 : decode cL_law 1616 = .ok (.iload 4, 2) := by decide +kernel
theorem dL_law_1618 : decode cL_law 1618 = .ok (.iconst 2, 1) := by decide +kernel
theorem dL_law_1619 : decode cL_law 1619 = .ok (.iadd, 1) := by decide +kernel
theorem dL_law_1620 : decode cL_law 1620 = .ok (.iaload, 1) := by decide +kernel
theorem dL_law_1621 : decode cL_law 1621 = .ok (.aload_n 3, 1) := by decide +kernel
theorem dL_law_1622 : decode cL_law 1622 = .ok (.invokestatic 172, 3) := by decide +kernel
theorem dL_law_1625 : decode cL_law 1625 = .ok (.istore 5, 2) := by decide +kernel
theorem dL_law_1627 : decode cL_law 1627 = .ok (.aload_n 2, 1) := by decide +kernel
theorem dL_law_1628 : decode cL_law 1628 = .ok (.aload_n 0, 1) := by decide +kernel
theorem dL_law_1629 : decode cL_law 1629 = .ok (.iload 4, 2) := by decide +kernel
theorem dL_law_1631 : decode cL_law 1631 = .ok (.iconst 1, 1) := by decide +kernel
theorem dL_law_1632 : decode cL_law 1632 = .ok (.iadd, 1) := by decide +kernel
theorem dL_law_1633 : decode cL_law 1633 = .ok (.iaload, 1) := by decide +kernel
theorem dL_law_1634 : decode cL_law 1634 = .ok (.aload_n 0, 1) := by decide +kernel
theorem dL_law_1635 : decode cL_law 1635 = .ok (.iload 4, 2) := by decide +kernel
theorem dL_law_1637 : decode cL_law 1637 = .ok (.iconst 2, 1) := by decide +kernel
theorem dL_law_1638 : decode cL_law 1638 = .ok (.iadd, 1) := by decide +kernel
theorem dL_law_1639 : decode cL_law 1639 = .ok (.iaload, 1) := by decide +kernel
theorem dL_law_1640 : decode cL_law 1640 = .ok (.invokevirtual 174, 3) := by decide +kernel
theorem dL_law_1643 : decode cL_law 1643 = .ok (.istore 6, 2) := by decide +kernel
theorem dL_law_1645 : decode cL_law 1645 = .ok (.aload_n 2, 1) := by decide +kernel
theorem dL_law_1646 : decode cL_law 1646 = .ok (.invokevirtual 97, 3) := by decide +kernel
theorem dL_law_1649 : decode cL_law 1649 = .ok (.iload 5, 2) := by decide +kernel
theorem dL_law_1651 : decode cL_law 1651 = .ok (.if_icmp .eq 5, 3) := by decide +kernel
theorem dL_law_1654 : decode cL_law 1654 = .ok (.iconst 0, 1) := by decide +kernel
theorem dL_law_1655 : decode cL_law 1655 = .ok (.ireturn, 1) := by decide +kernel
theorem dL_law_1656 : decode cL_law 1656 = .ok (.iload 5, 2) := by decide +kernel
theorem dL_law_1658 : decode cL_law 1658 = .ok (.ifCond .ne 15, 3) := by decide +kernel
theorem dL_law_1661 : decode cL_law 1661 = .ok (.aload_n 3, 1) := by decide +kernel
theorem dL_law_1662 : decode cL_law 1662 = .ok (.iconst 0, 1) := by decide +kernel
theorem dL_law_1663 : decode cL_law 1663 = .ok (.laload, 1) := by decide +kernel
theorem dL_law_1664 : decode cL_law 1664 = .ok (.iload 6, 2) := by decide +kernel
theorem dL_law_1666 : decode cL_law 1666 = .ok (.i2l, 1) := by decide +kernel
theorem dL_law_1667 : decode cL_law 1667 = .ok (.lcmp, 1) := by decide +kernel
theorem dL_law_1668 : decode cL_law 1668 = .ok (.ifCond .eq 5, 3) := by decide +kernel
theorem dL_law_1671 : decode cL_law 1671 = .ok (.iconst 0, 1) := by decide +kernel
theorem dL_law_1672 : decode cL_law 1672 = .ok (.ireturn, 1) := by decide +kernel
theorem dL_law_1673 : decode cL_law 1673 = .ok (.goto 85, 3) := by decide +kernel
theorem dL_law_1676 : decode cL_law 1676 = .ok (.aload_n 1, 1) := by decide +kernel
theorem dL_law_1677 : decode cL_law 1677 = .ok (.aload_n 0, 1) := by decide +kernel
theorem dL_law_1678 : decode cL_law 1678 = .ok (.iload 4, 2) := by decide +kernel
theorem dL_law_1680 : decode cL_law 1680 = .ok (.iconst 1, 1) := by decide +kernel
theorem dL_law_1681 : decode cL_law 1681 = .ok (.iadd, 1) := by decide +kernel
theorem dL_law_1682 : decode cL_law 1682 = .ok (.iaload, 1) := by decide +kernel
theorem dL_law_1683 : decode cL_law 1683 = .ok (.aload_n 0, 1) := by decide +kernel
theorem dL_law_1684 : decode cL_law 1684 = .ok (.iload 4, 2) := by decide +kernel
theorem dL_law_1686 : decode cL_law 1686 = .ok (.iconst 2, 1) := by decide +kernel
theorem dL_law_1687 : decode cL_law 1687 = .ok (.iadd, 1) := by decide +kernel
theorem dL_law_1688 : decode cL_law 1688 = .ok (.iaload, 1) := by decide +kernel
theorem dL_law_1689 : decode cL_law 1689 = .ok (.aload_n 3, 1) := by decide +kernel
theorem dL_law_1690 : decode cL_law 1690 = .ok (.invokestatic 175, 3) := by decide +kernel
theorem dL_law_1693 : decode cL_law 1693 = .ok (.istore 5, 2) := by decide +kernel
theorem dL_law_1695 : decode cL_law 1695 = .ok (.aload_n 2, 1) := by decide +kernel
theorem dL_law_1696 : decode cL_law 1696 = .ok (.aload_n 0, 1) := by decide +kernel
theorem dL_law_1697 : decode cL_law 1697 = .ok (.iload 4, 2) := by decide +kernel
theorem dL_law_1699 : decode cL_law 1699 = .ok (.iconst 1, 1) := by decide +kernel
theorem dL_law_1700 : decode cL_law 1700 = .ok (.iadd, 1) := by decide +kernel
theorem dL_law_1701 : decode cL_law 1701 = .ok (.iaload, 1) := by decide +kernel
theorem dL_law_1702 : decode cL_law 1702 = .ok (.aload_n 0, 1) := by decide +kernel
theorem dL_law_1703 : decode cL_law 1703 = .ok (.iload 4, 2) := by decide +kernel
theorem dL_law_1705 : decode cL_law 1705 = .ok (.iconst 2, 1) := by decide +kernel
theorem dL_law_1706 : decode cL_law 1706 = .ok (.iadd, 1) := by decide +kernel
theorem dL_law_1707 : decode cL_law 1707 = .ok (.iaload, 1) := by decide +kernel
theorem dL_law_1708 : decode cL_law 1708 = .ok (.invokevirtual 177, 3) := by decide +kernel
theorem dL_law_1711 : decode cL_law 1711 = .ok (.istore 6, 2) := by decide +kernel
theorem dL_law_1713 : decode cL_law 1713 = .ok (.aload_n 2, 1) := by decide +kernel
theorem dL_law_1714 : decode cL_law 1714 = .ok (.invokevirtual 97, 3) := by decide +kernel
theorem dL_law_1717 : decode cL_law 1717 = .ok (.iload 5, 2) := by decide +kernel
theorem dL_law_1719 : decode cL_law 1719 = .ok (.if_icmp .eq 5, 3) := by decide +kernel
theorem dL_law_1722 : decode cL_law 1722 = .ok (.iconst 0, 1) := by decide +kernel
theorem dL_law_1723 : decode cL_law 1723 = .ok (.ireturn, 1) := by decide +kernel
theorem dL_law_1724 : decode cL_law 1724 = .ok (.iload 5, 2) := by decide +kernel
theorem dL_law_1726 : decode cL_law 1726 = .ok (.ifCond .ne 15, 3) := by decide +kernel
theorem dL_law_1729 : decode cL_law 1729 = .ok (.aload_n 3, 1) := by decide +kernel
theorem dL_law_1730 : decode cL_law 1730 = .ok (.iconst 0, 1) := by decide +kernel
theorem dL_law_1731 : decode cL_law 1731 = .ok (.laload, 1) := by decide +kernel
theorem dL_law_1732 : decode cL_law 1732 = .ok (.iload 6, 2) := by decide +kernel
theorem dL_law_1734 : decode cL_law 1734 = .ok (.i2l, 1) := by decide +kernel
theorem dL_law_1735 : decode cL_law 1735 = .ok (.lcmp, 1) := by decide +kernel
theorem dL_law_1736 : decode cL_law 1736 = .ok (.ifCond .eq 5, 3) := by decide +kernel
theorem dL_law_1739 : decode cL_law 1739 = .ok (.iconst 0, 1) := by decide +kernel
theorem dL_law_1740 : decode cL_law 1740 = .ok (.ireturn, 1) := by decide +kernel
theorem dL_law_1741 : decode cL_law 1741 = .ok (.goto 17, 3) := by decide +kernel
theorem dL_law_1744 : decode cL_law 1744 = .ok (.aload_n 1, 1) := by decide +kernel
theorem dL_law_1745 : decode cL_law 1745 = .ok (.invokevirtual 178, 3) := by decide +kernel
theorem dL_law_1748 : decode cL_law 1748 = .ok (.aload_n 2, 1) := by decide +kernel
theorem dL_law_1749 : decode cL_law 1749 = .ok (.invokevirtual 182, 3) := by decide +kernel
theorem dL_law_1752 : decode cL_law 1752 = .ok (.lcmp, 1) := by decide +kernel
theorem dL_law_1753 : decode cL_law 1753 = .ok (.ifCond .eq 5, 3) := by decide +kernel
theorem dL_law_1756 : decode cL_law 1756 = .ok (.iconst 0, 1) := by decide +kernel
theorem dL_law_1757 : decode cL_law 1757 = .ok (.ireturn, 1) := by decide +kernel
theorem dL_law_1758 : decode cL_law 1758 = .ok (.iinc 4 5, 3) := by decide +kernel
theorem dL_law_1761 : decode cL_law 1761 = .ok (.goto (-1738), 3) := by decide +kernel
theorem dL_law_1764 : decode cL_law 1764 = .ok (.iconst 1, 1) := by decide +kernel
theorem dL_law_1765 : decode cL_law 1765 = .ok (.ireturn, 1) := by decide +kernel
