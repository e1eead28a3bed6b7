theorem dX0_init_0 : decode cX0_init 0 = .ok (.aload_n 0, 1) := by decide +kernel
theorem dX0_init_1 : decode cX0_init 1 = .ok (.invokespecial 3, 3) := by decide +kernel
theorem dX0_init_4 : decode cX0_init 4 = .ok (.aload_n 0, 1) := by decide +kernel
theorem dX0_init_5 : decode cX0_init 5 = .ok (.bipush 9, 2) := by decide +kernel
theorem dX0_init_7 : decode cX0_init 7 = .ok (.newarray .int, 2) := by decide +kernel
theorem dX0_init_9 : decode cX0_init 9 = .ok (.putfield 11, 3) := by decide +kernel
theorem dX0_init_12 : decode cX0_init 12 = .ok (.aload_n 0, 1) := by decide +kernel
theorem dX0_init_13 : decode cX0_init 13 = .ok (.bipush 9, 2) := by decide +kernel
theorem dX0_init_15 : decode cX0_init 15 = .ok (.newarray .int, 2) := by decide +kernel
theorem dX0_init_17 : decode cX0_init 17 = .ok (.putfield 15, 3) := by decide +kernel
theorem dX0_init_20 : decode cX0_init 20 = .ok (.aload_n 0, 1) := by decide +kernel
theorem dX0_init_21 : decode cX0_init 21 = .ok (.bipush 9, 2) := by decide +kernel
theorem dX0_init_23 : decode cX0_init 23 = .ok (.newarray .int, 2) := by decide +kernel
theorem dX0_init_25 : decode cX0_init 25 = .ok (.putfield 18, 3) := by decide +kernel
theorem dX0_init_28 : decode cX0_init 28 = .ok (.return_, 1) := by decide +kernel
theorem dX0_slotOf_0 : decode cX0_slotOf 0 = .ok (.iload_n 0, 1) := by decide +kernel
theorem dX0_slotOf_1 : decode cX0_slotOf 1 = .ok (.bipush 9, 2) := by decide +kernel
theorem dX0_slotOf_3 : decode cX0_slotOf 3 = .ok (.invokestatic 21, 3) := by decide +kernel
theorem dX0_slotOf_6 : decode cX0_slotOf 6 = .ok (.ireturn, 1) := by decide +kernel
theorem dX0_put_0 : decode cX0_put 0 = .ok (.iload_n 1, 1) := by decide +kernel
theorem dX0_put_1 : decode cX0_put 1 = .ok (.invokestatic 27, 3) := by decide +kernel
theorem dX0_put_4 : decode cX0_put 4 = .ok (.istore 4, 2) := by decide +kernel
theorem dX0_put_6 : decode cX0_put 6 = .ok (.iload_n 2, 1) := by decide +kernel
theorem dX0_put_7 : decode cX0_put 7 = .ok (.ifCond .lt 23, 3) := by decide +kernel
theorem dX0_put_10 : decode cX0_put 10 = .ok (.iload_n 2, 1) := by decide +kernel
theorem dX0_put_11 : decode cX0_put 11 = .ok (.bipush 19, 2) := by decide +kernel
theorem dX0_put_13 : decode cX0_put 13 = .ok (.if_icmp .gt 17, 3) := by decide +kernel
theorem dX0_put_16 : decode cX0_put 16 = .ok (.aload_n 0, 1) := by decide +kernel
theorem dX0_put_17 : decode cX0_put 17 = .ok (.getfield 11, 3) := by decide +kernel
theorem dX0_put_20 : decode cX0_put 20 = .ok (.iload 4, 2) := by decide +kernel
theorem dX0_put_22 : decode cX0_put 22 = .ok (.dup2, 1) := by decide +kernel
theorem dX0_put_23 : decode cX0_put 23 = .ok (.iaload, 1) := by decide +kernel
theorem dX0_put_24 : decode cX0_put 24 = .ok (.iload_n 3, 1) := by decide +kernel
theorem dX0_put_25 : decode cX0_put 25 = .ok (.iadd, 1) := by decide +kernel
theorem dX0_put_26 : decode cX0_put 26 = .ok (.iastore, 1) := by decide +kernel
theorem dX0_put_27 : decode cX0_put 27 = .ok (.goto 40, 3) := by decide +kernel
theorem dX0_put_30 : decode cX0_put 30 = .ok (.iload_n 2, 1) := by decide +kernel
theorem dX0_put_31 : decode cX0_put 31 = .ok (.bipush (-4), 2) := by decide +kernel
theorem dX0_put_33 : decode cX0_put 33 = .ok (.if_icmp .lt 23, 3) := by decide +kernel
theorem dX0_put_36 : decode cX0_put 36 = .ok (.iload_n 2, 1) := by decide +kernel
theorem dX0_put_37 : decode cX0_put 37 = .ok (.bipush 23, 2) := by decide +kernel
theorem dX0_put_39 : decode cX0_put 39 = .ok (.if_icmp .gt 17, 3) := by decide +kernel
theorem dX0_put_42 : decode cX0_put 42 = .ok (.aload_n 0, 1) := by decide +kernel
theorem dX0_put_43 : decode cX0_put 43 = .ok (.getfield 15, 3) := by decide +kernel
theorem dX0_put_46 : decode cX0_put 46 = .ok (.iload 4, 2) := by decide +kernel
theorem dX0_put_48 : decode cX0_put 48 = .ok (.dup2, 1) := by decide +kernel
theorem dX0_put_49 : decode cX0_put 49 = .ok (.iaload, 1) := by decide +kernel
theorem dX0_put_50 : decode cX0_put 50 = .ok (.iload_n 3, 1) := by decide +kernel
theorem dX0_put_51 : decode cX0_put 51 = .ok (.iadd, 1) := by decide +kernel
theorem dX0_put_52 : decode cX0_put 52 = .ok (.iastore, 1) := by decide +kernel
theorem dX0_put_53 : decode cX0_put 53 = .ok (.goto 14, 3) := by decide +kernel
theorem dX0_put_56 : decode cX0_put 56 = .ok (.aload_n 0, 1) := by decide +kernel
theorem dX0_put_57 : decode cX0_put 57 = .ok (.getfield 18, 3) := by decide +kernel
theorem dX0_put_60 : decode cX0_put 60 = .ok (.iload 4, 2) := by decide +kernel
theorem dX0_put_62 : decode cX0_put 62 = .ok (.dup2, 1) := by decide +kernel
theorem dX0_put_63 : decode cX0_put 63 = .ok (.iaload, 1) := by decide +kernel
theorem dX0_put_64 : decode cX0_put 64 = .ok (.iload_n 3, 1) := by decide +kernel
theorem dX0_put_65 : decode cX0_put 65 = .ok (.iadd, 1) := by decide +kernel
theorem dX0_put_66 : decode cX0_put 66 = .ok (.iastore, 1) := by decide +kernel
theorem dX0_put_67 : decode cX0_put 67 = .ok (.return_, 1) := by decide +kernel
theorem dX0_fallingIn_0 : decode cX0_fallingIn 0 = .ok (.iload_n 1, 1) := by decide +kernel
theorem dX0_fallingIn_1 : decode cX0_fallingIn 1 = .ok (.invokestatic 27, 3) := by decide +kernel
theorem dX0_fallingIn_4 : decode cX0_fallingIn 4 = .ok (.istore_n 2, 1) := by decide +kernel
theorem dX0_fallingIn_5 : decode cX0_fallingIn 5 = .ok (.aload_n 0, 1) := by decide +kernel
theorem dX0_fallingIn_6 : decode cX0_fallingIn 6 = .ok (.getfield 11, 3) := by decide +kernel
theorem dX0_fallingIn_9 : decode cX0_fallingIn 9 = .ok (.iload_n 2, 1) := by decide +kernel
theorem dX0_fallingIn_10 : decode cX0_fallingIn 10 = .ok (.iaload, 1) := by decide +kernel
theorem dX0_fallingIn_11 : decode cX0_fallingIn 11 = .ok (.aload_n 0, 1) := by decide +kernel
theorem dX0_fallingIn_12 : decode cX0_fallingIn 12 = .ok (.getfield 15, 3) := by decide +kernel
theorem dX0_fallingIn_15 : decode cX0_fallingIn 15 = .ok (.iload_n 2, 1) := by decide +kernel
theorem dX0_fallingIn_16 : decode cX0_fallingIn 16 = .ok (.iaload, 1) := by decide +kernel
theorem dX0_fallingIn_17 : decode cX0_fallingIn 17 = .ok (.iadd, 1) := by decide +kernel
theorem dX0_fallingIn_18 : decode cX0_fallingIn 18 = .ok (.aload_n 0, 1) := by decide +kernel
theorem dX0_fallingIn_19 : decode cX0_fallingIn 19 = .ok (.getfield 18, 3) := by decide +kernel
theorem dX0_fallingIn_22 : decode cX0_fallingIn 22 = .ok (.iload_n 2, 1) := by decide +kernel
theorem dX0_fallingIn_23 : decode cX0_fallingIn 23 = .ok (.iaload, 1) := by decide +kernel
theorem dX0_fallingIn_24 : decode cX0_fallingIn 24 = .ok (.iadd, 1) := by decide +kernel
theorem dX0_fallingIn_25 : decode cX0_fallingIn 25 = .ok (.ireturn, 1) := by decide +kernel
theorem dX0_fallingOnBasin_0 : decode cX0_fallingOnBasin 0 = .ok (.aload_n 0, 1) := by decide +kernel
theorem dX0_fallingOnBasin_1 : decode cX0_fallingOnBasin 1 = .ok (.getfield 11, 3) := by decide +kernel
theorem dX0_fallingOnBasin_4 : decode cX0_fallingOnBasin 4 = .ok (.iload_n 1, 1) := by decide +kernel
theorem dX0_fallingOnBasin_5 : decode cX0_fallingOnBasin 5 = .ok (.invokestatic 27, 3) := by decide +kernel
theorem dX0_fallingOnBasin_8 : decode cX0_fallingOnBasin 8 = .ok (.iaload, 1) := by decide +kernel
theorem dX0_fallingOnBasin_9 : decode cX0_fallingOnBasin 9 = .ok (.ireturn, 1) := by decide +kernel
theorem dX0_fallingOnCrowd_0 : decode cX0_fallingOnCrowd 0 = .ok (.aload_n 0, 1) := by decide +kernel
theorem dX0_fallingOnCrowd_1 : decode cX0_fallingOnCrowd 1 = .ok (.getfield 15, 3) := by decide +kernel
theorem dX0_fallingOnCrowd_4 : decode cX0_fallingOnCrowd 4 = .ok (.iload_n 1, 1) := by decide +kernel
theorem dX0_fallingOnCrowd_5 : decode cX0_fallingOnCrowd 5 = .ok (.invokestatic 27, 3) := by decide +kernel
theorem dX0_fallingOnCrowd_8 : decode cX0_fallingOnCrowd 8 = .ok (.iaload, 1) := by decide +kernel
theorem dX0_fallingOnCrowd_9 : decode cX0_fallingOnCrowd 9 = .ok (.ireturn, 1) := by decide +kernel
theorem dX0_clear_0 : decode cX0_clear 0 = .ok (.iload_n 1, 1) := by decide +kernel
theorem dX0_clear_1 : decode cX0_clear 1 = .ok (.invokestatic 27, 3) := by decide +kernel
theorem dX0_clear_4 : decode cX0_clear 4 = .ok (.istore_n 2, 1) := by decide +kernel
theorem dX0_clear_5 : decode cX0_clear 5 = .ok (.aload_n 0, 1) := by decide +kernel
theorem dX0_clear_6 : decode cX0_clear 6 = .ok (.getfield 11, 3) := by decide +kernel
theorem dX0_clear_9 : decode cX0_clear 9 = .ok (.iload_n 2, 1) := by decide +kernel
theorem dX0_clear_10 : decode cX0_clear 10 = .ok (.iconst 0, 1) := by decide +kernel
theorem dX0_clear_11 : decode cX0_clear 11 = .ok (.iastore, 1) := by decide +kernel
theorem dX0_clear_12 : decode cX0_clear 12 = .ok (.aload_n 0, 1) := by decide +kernel
theorem dX0_clear_13 : decode cX0_clear 13 = .ok (.getfield 15, 3) := by decide +kernel
theorem dX0_clear_16 : decode cX0_clear 16 = .ok (.iload_n 2, 1) := by decide +kernel
theorem dX0_clear_17 : decode cX0_clear 17 = .ok (.iconst 0, 1) := by decide +kernel
theorem dX0_clear_18 : decode cX0_clear 18 = .ok (.iastore, 1) := by decide +kernel
theorem dX0_clear_19 : decode cX0_clear 19 = .ok (.aload_n 0, 1) := by decide +kernel
theorem dX0_clear_20 : decode cX0_clear 20 = .ok (.getfield 18, 3) := by decide +kernel
theorem dX0_clear_23 : decode cX0_clear 23 = .ok (.iload_n 2, 1) := by decide +kernel
theorem dX0_clear_24 : decode cX0_clear 24 = .ok (.iconst 0, 1) := by decide +kernel
theorem dX0_clear_25 : decode cX0_clear 25 = .ok (.iastore, 1) := by decide +kernel
theorem dX0_clear_26 : decode cX0_clear 26 = .ok (.return_, 1) := by decide +kernel
theorem dX0_all_0 : decode cX0_all 0 = .ok (.iconst 0, 1) := by decide +kernel
theorem dX0_all_1 : decode cX0_all 1 = .ok (.istore_n 1, 1) := by decide +kernel
theorem dX0_all_2 : decode cX0_all 2 = .ok (.iconst 0, 1) := by decide +kernel
theorem dX0_all_3 : decode cX0_all 3 = .ok (.istore_n 2, 1) := by decide +kernel
theorem dX0_all_4 : decode cX0_all 4 = .ok (.iload_n 2, 1) := by decide +kernel
theorem dX0_all_5 : decode cX0_all 5 = .ok (.bipush 9, 2) := by decide +kernel
theorem dX0_all_7 : decode cX0_all 7 = .ok (.if_icmp .ge 32, 3) := by decide +kernel
theorem dX0_all_10 : decode cX0_all 10 = .ok (.iload_n 1, 1) := by decide +kernel
theorem dX0_all_11 : decode cX0_all 11 = .ok (.aload_n 0, 1) := by decide +kernel
theorem dX0_all_12 : decode cX0_all 12 = .ok (.getfield 11, 3) := by decide +kernel
theorem dX0_all_15 : decode cX0_all 15 = .ok (.iload_n 2, 1) := by decide +kernel
theorem dX0_all_16 : decode cX0_all 16 = .ok (.iaload, 1) := by decide +kernel
theorem dX0_all_17 : decode cX0_all 17 = .ok (.aload_n 0, 1) := by decide +kernel
theorem dX0_all_18 : decode cX0_all 18 = .ok (.getfield 15, 3) := by decide +kernel
theorem dX0_all_21 : decode cX0_all 21 = .ok (.iload_n 2, 1) := by decide +kernel
theorem dX0_all_22 : decode cX0_all 22 = .ok (.iaload, 1) := by decide +kernel
theorem dX0_all_23 : decode cX0_all 23 = .ok (.iadd, 1) := by decide +kernel
theorem dX0_all_24 : decode cX0_all 24 = .ok (.aload_n 0, 1) := by decide +kernel
theorem dX0_all_25 : decode cX0_all 25 = .ok (.getfield 18, 3) := by decide +kernel
theorem dX0_all_28 : decode cX0_all 28 = .ok (.iload_n 2, 1) := by decide +kernel
theorem dX0_all_29 : decode cX0_all 29 = .ok (.iaload, 1) := by decide +kernel
theorem dX0_all_30 : decode cX0_all 30 = .ok (.iadd, 1) := by decide +kernel
theorem dX0_all_31 : decode cX0_all 31 = .ok (.iadd, 1) := by decide +kernel
theorem dX0_all_32 : decode cX0_all 32 = .ok (.istore_n 1, 1) := by decide +kernel
theorem dX0_all_33 : decode cX0_all 33 = .ok (.iinc 2 1, 3) := by decide +kernel
theorem dX0_all_36 : decode cX0_all 36 = .ok (.goto (-32), 3) := by decide +kernel
theorem dX0_all_39 : decode cX0_all 39 = .ok (.iload_n 1, 1) := by decide +kernel
theorem dX0_all_40 : decode cX0_all 40 = .ok (.ireturn, 1) := by decide +kernel
theorem dX0_becomeLike_0 : decode cX0_becomeLike 0 = .ok (.aload_n 1, 1) := by decide +kernel
theorem dX0_becomeLike_1 : decode cX0_becomeLike 1 = .ok (.getfield 11, 3) := by decide +kernel
theorem dX0_becomeLike_4 : decode cX0_becomeLike 4 = .ok (.iconst 0, 1) := by decide +kernel
theorem dX0_becomeLike_5 : decode cX0_becomeLike 5 = .ok (.aload_n 0, 1) := by decide +kernel
theorem dX0_becomeLike_6 : decode cX0_becomeLike 6 = .ok (.getfield 11, 3) := by decide +kernel
theorem dX0_becomeLike_9 : decode cX0_becomeLike 9 = .ok (.iconst 0, 1) := by decide +kernel
theorem dX0_becomeLike_10 : decode cX0_becomeLike 10 = .ok (.bipush 9, 2) := by decide +kernel
theorem dX0_becomeLike_12 : decode cX0_becomeLike 12 = .ok (.invokestatic 31, 3) := by decide +kernel
theorem dX0_becomeLike_15 : decode cX0_becomeLike 15 = .ok (.aload_n 1, 1) := by decide +kernel
theorem dX0_becomeLike_16 : decode cX0_becomeLike 16 = .ok (.getfield 15, 3) := by decide +kernel
theorem dX0_becomeLike_19 : decode cX0_becomeLike 19 = .ok (.iconst 0, 1) := by decide +kernel
theorem dX0_becomeLike_20 : decode cX0_becomeLike 20 = .ok (.aload_n 0, 1) := by decide +kernel
theorem dX0_becomeLike_21 : decode cX0_becomeLike 21 = .ok (.getfield 15, 3) := by decide +kernel
theorem dX0_becomeLike_24 : decode cX0_becomeLike 24 = .ok (.iconst 0, 1) := by decide +kernel
theorem dX0_becomeLike_25 : decode cX0_becomeLike 25 = .ok (.bipush 9, 2) := by decide +kernel
theorem dX0_becomeLike_27 : decode cX0_becomeLike 27 = .ok (.invokestatic 31, 3) := by decide +kernel
theorem dX0_becomeLike_30 : decode cX0_becomeLike 30 = .ok (.aload_n 1, 1) := by decide +kernel
theorem dX0_becomeLike_31 : decode cX0_becomeLike 31 = .ok (.getfield 18, 3) := by decide +kernel
theorem dX0_becomeLike_34 : decode cX0_becomeLike 34 = .ok (.iconst 0, 1) := by decide +kernel
theorem dX0_becomeLike_35 : decode cX0_becomeLike 35 = .ok (.aload_n 0, 1) := by decide +kernel
theorem dX0_becomeLike_36 : decode cX0_becomeLike 36 = .ok (.getfield 18, 3) := by decide +kernel
theorem dX0_becomeLike_39 : decode cX0_becomeLike 39 = .ok (.iconst 0, 1) := by decide +kernel
theorem dX0_becomeLike_40 : decode cX0_becomeLike 40 = .ok (.bipush 9, 2) := by decide +kernel
theorem dX0_becomeLike_42 : decode cX0_becomeLike 42 = .ok (.invokestatic 31, 3) := by decide +kernel
theorem dX0_becomeLike_45 : decode cX0_becomeLike 45 = .ok (.return_, 1) := by decide +kernel
theorem dX1_init_0 : decode cX1_init 0 = .ok (.aload_n 0, 1) := by decide +kernel
theorem dX1_init_1 : decode cX1_init 1 = .ok (.invokespecial 1, 3) := by decide +kernel
theorem dX1_init_4 : decode cX1_init 4 = .ok (.aload_n 0, 1) := by decide +kernel
theorem dX1_init_5 : decode cX1_init 5 = .ok (.aload_n 1, 1) := by decide +kernel
theorem dX1_init_6 : decode cX1_init 6 = .ok (.putfield 7, 3) := by decide +kernel
theorem dX1_init_9 : decode cX1_init 9 = .ok (.aload_n 0, 1) := by decide +kernel
theorem dX1_init_10 : decode cX1_init 10 = .ok (.iload_n 2, 1) := by decide +kernel
theorem dX1_init_11 : decode cX1_init 11 = .ok (.putfield 13, 3) := by decide +kernel
theorem dX1_init_14 : decode cX1_init 14 = .ok (.aload_n 0, 1) := by decide +kernel
theorem dX1_init_15 : decode cX1_init 15 = .ok (.iload_n 3, 1) := by decide +kernel
theorem dX1_init_16 : decode cX1_init 16 = .ok (.putfield 17, 3) := by decide +kernel
theorem dX1_init_19 : decode cX1_init 19 = .ok (.return_, 1) := by decide +kernel
theorem dX1_dueOf_0 : decode cX1_dueOf 0 = .ok (.aload_n 0, 1) := by decide +kernel
theorem dX1_dueOf_1 : decode cX1_dueOf 1 = .ok (.getfield 17, 3) := by decide +kernel
theorem dX1_dueOf_4 : decode cX1_dueOf 4 = .ok (.aload_n 1, 1) := by decide +kernel
theorem dX1_dueOf_5 : decode cX1_dueOf 5 = .ok (.getfield 20, 3) := by decide +kernel
theorem dX1_dueOf_8 : decode cX1_dueOf 8 = .ok (.iadd, 1) := by decide +kernel
theorem dX1_dueOf_9 : decode cX1_dueOf 9 = .ok (.iconst 1, 1) := by decide +kernel
theorem dX1_dueOf_10 : decode cX1_dueOf 10 = .ok (.iadd, 1) := by decide +kernel
theorem dX1_dueOf_11 : decode cX1_dueOf 11 = .ok (.ireturn, 1) := by decide +kernel
theorem dX1_stepsDueAfter_0 : decode cX1_stepsDueAfter 0 = .ok (.iconst 0, 1) := by decide +kernel
theorem dX1_stepsDueAfter_1 : decode cX1_stepsDueAfter 1 = .ok (.istore_n 2, 1) := by decide +kernel
theorem dX1_stepsDueAfter_2 : decode cX1_stepsDueAfter 2 = .ok (.iconst 0, 1) := by decide +kernel
theorem dX1_stepsDueAfter_3 : decode cX1_stepsDueAfter 3 = .ok (.istore_n 3, 1) := by decide +kernel
theorem dX1_stepsDueAfter_4 : decode cX1_stepsDueAfter 4 = .ok (.iload_n 3, 1) := by decide +kernel
theorem dX1_stepsDueAfter_5 : decode cX1_stepsDueAfter 5 = .ok (.aload_n 0, 1) := by decide +kernel
theorem dX1_stepsDueAfter_6 : decode cX1_stepsDueAfter 6 = .ok (.getfield 7, 3) := by decide +kernel
theorem dX1_stepsDueAfter_9 : decode cX1_stepsDueAfter 9 = .ok (.invokevirtual 25, 3) := by decide +kernel
theorem dX1_stepsDueAfter_12 : decode cX1_stepsDueAfter 12 = .ok (.if_icmp .ge 31, 3) := by decide +kernel
theorem dX1_stepsDueAfter_15 : decode cX1_stepsDueAfter 15 = .ok (.aload_n 0, 1) := by decide +kernel
theorem dX1_stepsDueAfter_16 : decode cX1_stepsDueAfter 16 = .ok (.aload_n 0, 1) := by decide +kernel
theorem dX1_stepsDueAfter_17 : decode cX1_stepsDueAfter 17 = .ok (.getfield 7, 3) := by decide +kernel
theorem dX1_stepsDueAfter_20 : decode cX1_stepsDueAfter 20 = .ok (.iload_n 3, 1) := by decide +kernel
theorem dX1_stepsDueAfter_21 : decode cX1_stepsDueAfter 21 = .ok (.invokevirtual 31, 3) := by decide +kernel
theorem dX1_stepsDueAfter_24 : decode cX1_stepsDueAfter 24 = .ok (.checkcast 21, 3) := by decide +kernel
theorem dX1_stepsDueAfter_27 : decode cX1_stepsDueAfter 27 = .ok (.invokevirtual 35, 3) := by decide +kernel
theorem dX1_stepsDueAfter_30 : decode cX1_stepsDueAfter 30 = .ok (.iload_n 1, 1) := by decide +kernel
theorem dX1_stepsDueAfter_31 : decode cX1_stepsDueAfter 31 = .ok (.if_icmp .le 6, 3) := by decide +kernel
theorem dX1_stepsDueAfter_34 : decode cX1_stepsDueAfter 34 = .ok (.iinc 2 1, 3) := by decide +kernel
theorem dX1_stepsDueAfter_37 : decode cX1_stepsDueAfter 37 = .ok (.iinc 3 1, 3) := by decide +kernel
theorem dX1_stepsDueAfter_40 : decode cX1_stepsDueAfter 40 = .ok (.goto (-36), 3) := by decide +kernel
theorem dX1_stepsDueAfter_43 : decode cX1_stepsDueAfter 43 = .ok (.iload_n 2, 1) := by decide +kernel
theorem dX1_stepsDueAfter_44 : decode cX1_stepsDueAfter 44 = .ok (.ireturn, 1) := by decide +kernel
theorem dX2_init_0 : decode cX2_init 0 = .ok (.aload_n 0, 1) := by decide +kernel
theorem dX2_init_1 : decode cX2_init 1 = .ok (.invokespecial 1, 3) := by decide +kernel
theorem dX2_init_4 : decode cX2_init 4 = .ok (.aload_n 0, 1) := by decide +kernel
theorem dX2_init_5 : decode cX2_init 5 = .ok (.new 7, 3) := by decide +kernel
theorem dX2_init_8 : decode cX2_init 8 = .ok (.dup, 1) := by decide +kernel
theorem dX2_init_9 : decode cX2_init 9 = .ok (.invokespecial 9, 3) := by decide +kernel
theorem dX2_init_12 : decode cX2_init 12 = .ok (.putfield 10, 3) := by decide +kernel
theorem dX2_init_15 : decode cX2_init 15 = .ok (.return_, 1) := by decide +kernel
theorem dX2_stepsNow_0 : decode cX2_stepsNow 0 = .ok (.new 7, 3) := by decide +kernel
theorem dX2_stepsNow_3 : decode cX2_stepsNow 3 = .ok (.dup, 1) := by decide +kernel
theorem dX2_stepsNow_4 : decode cX2_stepsNow 4 = .ok (.invokespecial 9, 3) := by decide +kernel
theorem dX2_stepsNow_7 : decode cX2_stepsNow 7 = .ok (.astore_n 1, 1) := by decide +kernel
theorem dX2_stepsNow_8 : decode cX2_stepsNow 8 = .ok (.iconst 0, 1) := by decide +kernel
theorem dX2_stepsNow_9 : decode cX2_stepsNow 9 = .ok (.istore_n 2, 1) := by decide +kernel
theorem dX2_stepsNow_10 : decode cX2_stepsNow 10 = .ok (.iload_n 2, 1) := by decide +kernel
theorem dX2_stepsNow_11 : decode cX2_stepsNow 11 = .ok (.aload_n 0, 1) := by decide +kernel
theorem dX2_stepsNow_12 : decode cX2_stepsNow 12 = .ok (.getfield 10, 3) := by decide +kernel
theorem dX2_stepsNow_15 : decode cX2_stepsNow 15 = .ok (.invokevirtual 16, 3) := by decide +kernel
theorem dX2_stepsNow_18 : decode cX2_stepsNow 18 = .ok (.if_icmp .ge 25, 3) := by decide +kernel
theorem dX2_stepsNow_21 : decode cX2_stepsNow 21 = .ok (.aload_n 1, 1) := by decide +kernel
theorem dX2_stepsNow_22 : decode cX2_stepsNow 22 = .ok (.aload_n 0, 1) := by decide +kernel
theorem dX2_stepsNow_23 : decode cX2_stepsNow 23 = .ok (.getfield 10, 3) := by decide +kernel
theorem dX2_stepsNow_26 : decode cX2_stepsNow 26 = .ok (.iload_n 2, 1) := by decide +kernel
theorem dX2_stepsNow_27 : decode cX2_stepsNow 27 = .ok (.invokevirtual 20, 3) := by decide +kernel
theorem dX2_stepsNow_30 : decode cX2_stepsNow 30 = .ok (.checkcast 24, 3) := by decide +kernel
theorem dX2_stepsNow_33 : decode cX2_stepsNow 33 = .ok (.invokevirtual 26, 3) := by decide +kernel
theorem dX2_stepsNow_36 : decode cX2_stepsNow 36 = .ok (.pop, 1) := by decide +kernel
theorem dX2_stepsNow_37 : decode cX2_stepsNow 37 = .ok (.iinc 2 1, 3) := by decide +kernel
theorem dX2_stepsNow_40 : decode cX2_stepsNow 40 = .ok (.goto (-30), 3) := by decide +kernel
theorem dX2_stepsNow_43 : decode cX2_stepsNow 43 = .ok (.aload_n 1, 1) := by decide +kernel
theorem dX2_stepsNow_44 : decode cX2_stepsNow 44 = .ok (.areturn, 1) := by decide +kernel
theorem dX3_init_0 : decode cX3_init 0 = .ok (.aload_n 0, 1) := by decide +kernel
theorem dX3_init_1 : decode cX3_init 1 = .ok (.invokespecial 3, 3) := by decide +kernel
theorem dX3_init_4 : decode cX3_init 4 = .ok (.aload_n 0, 1) := by decide +kernel
theorem dX3_init_5 : decode cX3_init 5 = .ok (.aload_n 1, 1) := by decide +kernel
theorem dX3_init_6 : decode cX3_init 6 = .ok (.putfield 9, 3) := by decide +kernel
theorem dX3_init_9 : decode cX3_init 9 = .ok (.aload_n 0, 1) := by decide +kernel
theorem dX3_init_10 : decode cX3_init 10 = .ok (.iload_n 2, 1) := by decide +kernel
theorem dX3_init_11 : decode cX3_init 11 = .ok (.putfield 15, 3) := by decide +kernel
theorem dX3_init_14 : decode cX3_init 14 = .ok (.aload_n 0, 1) := by decide +kernel
theorem dX3_init_15 : decode cX3_init 15 = .ok (.iload_n 3, 1) := by decide +kernel
theorem dX3_init_16 : decode cX3_init 16 = .ok (.putfield 19, 3) := by decide +kernel
theorem dX3_init_19 : decode cX3_init 19 = .ok (.aload_n 0, 1) := by decide +kernel
theorem dX3_init_20 : decode cX3_init 20 = .ok (.iload 4, 2) := by decide +kernel
theorem dX3_init_22 : decode cX3_init 22 = .ok (.putfield 22, 3) := by decide +kernel
theorem dX3_init_25 : decode cX3_init 25 = .ok (.return_, 1) := by decide +kernel
theorem dX3_flow_0 : decode cX3_flow 0 = .ok (.aload_n 0, 1) := by decide +kernel
theorem dX3_flow_1 : decode cX3_flow 1 = .ok (.getfield 19, 3) := by decide +kernel
theorem dX3_flow_4 : decode cX3_flow 4 = .ok (.aload_n 0, 1) := by decide +kernel
theorem dX3_flow_5 : decode cX3_flow 5 = .ok (.getfield 25, 3) := by decide +kernel
theorem dX3_flow_8 : decode cX3_flow 8 = .ok (.imul, 1) := by decide +kernel
theorem dX3_flow_9 : decode cX3_flow 9 = .ok (.ireturn, 1) := by decide +kernel
theorem dX3_turn_0 : decode cX3_turn 0 = .ok (.aload_n 0, 1) := by decide +kernel
theorem dX3_turn_1 : decode cX3_turn 1 = .ok (.getfield 28, 3) := by decide +kernel
theorem dX3_turn_4 : decode cX3_turn 4 = .ok (.ifCond .ne 18, 3) := by decide +kernel
theorem dX3_turn_7 : decode cX3_turn 7 = .ok (.aload_n 0, 1) := by decide +kernel
theorem dX3_turn_8 : decode cX3_turn 8 = .ok (.aload_n 0, 1) := by decide +kernel
theorem dX3_turn_9 : decode cX3_turn 9 = .ok (.getfield 25, 3) := by decide +kernel
theorem dX3_turn_12 : decode cX3_turn 12 = .ok (.aload_n 0, 1) := by decide +kernel
theorem dX3_turn_13 : decode cX3_turn 13 = .ok (.getfield 32, 3) := by decide +kernel
theorem dX3_turn_16 : decode cX3_turn 16 = .ok (.invokestatic 35, 3) := by decide +kernel
theorem dX3_turn_19 : decode cX3_turn 19 = .ok (.putfield 25, 3) := by decide +kernel
theorem dX3_turn_22 : decode cX3_turn 22 = .ok (.return_, 1) := by decide +kernel
theorem dX3_isShorted_0 : decode cX3_isShorted 0 = .ok (.aload_n 0, 1) := by decide +kernel
theorem dX3_isShorted_1 : decode cX3_isShorted 1 = .ok (.getfield 39, 3) := by decide +kernel
theorem dX3_isShorted_4 : decode cX3_isShorted 4 = .ok (.ifCond .eq 14, 3) := by decide +kernel
theorem dX3_isShorted_7 : decode cX3_isShorted 7 = .ok (.aload_n 0, 1) := by decide +kernel
theorem dX3_isShorted_8 : decode cX3_isShorted 8 = .ok (.getfield 42, 3) := by decide +kernel
theorem dX3_isShorted_11 : decode cX3_isShorted 11 = .ok (.ifCond .eq 7, 3) := by decide +kernel
theorem dX3_isShorted_14 : decode cX3_isShorted 14 = .ok (.iconst 1, 1) := by decide +kernel
theorem dX3_isShorted_15 : decode cX3_isShorted 15 = .ok (.goto 4, 3) := by decide +kernel
theorem dX3_isShorted_18 : decode cX3_isShorted 18 = .ok (.iconst 0, 1) := by decide +kernel
theorem dX3_isShorted_19 : decode cX3_isShorted 19 = .ok (.ireturn, 1) := by decide +kernel
theorem dX3_obey_0 : decode cX3_obey 0 = .ok (.iload_n 1, 1) := by decide +kernel
theorem dX3_obey_1 : decode cX3_obey 1 = .ok (.bipush 10, 2) := by decide +kernel
theorem dX3_obey_3 : decode cX3_obey 3 = .ok (.if_icmp .lt 17, 3) := by decide +kernel
theorem dX3_obey_6 : decode cX3_obey 6 = .ok (.aload_n 0, 1) := by decide +kernel
theorem dX3_obey_7 : decode cX3_obey 7 = .ok (.getfield 9, 3) := by decide +kernel
theorem dX3_obey_10 : decode cX3_obey 10 = .ok (.iload_n 1, 1) := by decide +kernel
theorem dX3_obey_11 : decode cX3_obey 11 = .ok (.bipush 10, 2) := by decide +kernel
theorem dX3_obey_13 : decode cX3_obey 13 = .ok (.isub, 1) := by decide +kernel
theorem dX3_obey_14 : decode cX3_obey 14 = .ok (.invokevirtual 45, 3) := by decide +kernel
theorem dX3_obey_17 : decode cX3_obey 17 = .ok (.goto 30, 3) := by decide +kernel
theorem dX3_obey_20 : decode cX3_obey 20 = .ok (.iload_n 1, 1) := by decide +kernel
theorem dX3_obey_21 : decode cX3_obey 21 = .ok (.iconst 5, 1) := by decide +kernel
theorem dX3_obey_22 : decode cX3_obey 22 = .ok (.if_icmp .lt 20, 3) := by decide +kernel
theorem dX3_obey_25 : decode cX3_obey 25 = .ok (.aload_n 0, 1) := by decide +kernel
theorem dX3_obey_26 : decode cX3_obey 26 = .ok (.iload_n 1, 1) := by decide +kernel
theorem dX3_obey_27 : decode cX3_obey 27 = .ok (.iconst 5, 1) := by decide +kernel
theorem dX3_obey_28 : decode cX3_obey 28 = .ok (.if_icmp .ne 7, 3) := by decide +kernel
theorem dX3_obey_31 : decode cX3_obey 31 = .ok (.iconst 1, 1) := by decide +kernel
theorem dX3_obey_32 : decode cX3_obey 32 = .ok (.goto 4, 3) := by decide +kernel
theorem dX3_obey_35 : decode cX3_obey 35 = .ok (.iconst 0, 1) := by decide +kernel
theorem dX3_obey_36 : decode cX3_obey 36 = .ok (.putfield 39, 3) := by decide +kernel
theorem dX3_obey_39 : decode cX3_obey 39 = .ok (.goto 8, 3) := by decide +kernel
theorem dX3_obey_42 : decode cX3_obey 42 = .ok (.aload_n 0, 1) := by decide +kernel
theorem dX3_obey_43 : decode cX3_obey 43 = .ok (.iload_n 1, 1) := by decide +kernel
theorem dX3_obey_44 : decode cX3_obey 44 = .ok (.putfield 32, 3) := by decide +kernel
theorem dX3_obey_47 : decode cX3_obey 47 = .ok (.return_, 1) := by decide +kernel
theorem dX3_becomeLike_0 : decode cX3_becomeLike 0 = .ok (.aload_n 0, 1) := by decide +kernel
theorem dX3_becomeLike_1 : decode cX3_becomeLike 1 = .ok (.aload_n 1, 1) := by decide +kernel
theorem dX3_becomeLike_2 : decode cX3_becomeLike 2 = .ok (.getfield 32, 3) := by decide +kernel
theorem dX3_becomeLike_5 : decode cX3_becomeLike 5 = .ok (.putfield 32, 3) := by decide +kernel
theorem dX3_becomeLike_8 : decode cX3_becomeLike 8 = .ok (.aload_n 0, 1) := by decide +kernel
theorem dX3_becomeLike_9 : decode cX3_becomeLike 9 = .ok (.aload_n 1, 1) := by decide +kernel
theorem dX3_becomeLike_10 : decode cX3_becomeLike 10 = .ok (.getfield 25, 3) := by decide +kernel
theorem dX3_becomeLike_13 : decode cX3_becomeLike 13 = .ok (.putfield 25, 3) := by decide +kernel
theorem dX3_becomeLike_16 : decode cX3_becomeLike 16 = .ok (.aload_n 0, 1) := by decide +kernel
theorem dX3_becomeLike_17 : decode cX3_becomeLike 17 = .ok (.aload_n 1, 1) := by decide +kernel
theorem dX3_becomeLike_18 : decode cX3_becomeLike 18 = .ok (.getfield 28, 3) := by decide +kernel
theorem dX3_becomeLike_21 : decode cX3_becomeLike 21 = .ok (.putfield 28, 3) := by decide +kernel
theorem dX3_becomeLike_24 : decode cX3_becomeLike 24 = .ok (.aload_n 0, 1) := by decide +kernel
theorem dX3_becomeLike_25 : decode cX3_becomeLike 25 = .ok (.aload_n 1, 1) := by decide +kernel
theorem dX3_becomeLike_26 : decode cX3_becomeLike 26 = .ok (.getfield 39, 3) := by decide +kernel
theorem dX3_becomeLike_29 : decode cX3_becomeLike 29 = .ok (.putfield 39, 3) := by decide +kernel
theorem dX3_becomeLike_32 : decode cX3_becomeLike 32 = .ok (.aload_n 0, 1) := by decide +kernel
theorem dX3_becomeLike_33 : decode cX3_becomeLike 33 = .ok (.aload_n 1, 1) := by decide +kernel
theorem dX3_becomeLike_34 : decode cX3_becomeLike 34 = .ok (.getfield 42, 3) := by decide +kernel
theorem dX3_becomeLike_37 : decode cX3_becomeLike 37 = .ok (.putfield 42, 3) := by decide +kernel
theorem dX3_becomeLike_40 : decode cX3_becomeLike 40 = .ok (.aload_n 0, 1) := by decide +kernel
theorem dX3_becomeLike_41 : decode cX3_becomeLike 41 = .ok (.aload_n 1, 1) := by decide +kernel
theorem dX3_becomeLike_42 : decode cX3_becomeLike 42 = .ok (.getfield 51, 3) := by decide +kernel
theorem dX3_becomeLike_45 : decode cX3_becomeLike 45 = .ok (.putfield 51, 3) := by decide +kernel
theorem dX3_becomeLike_48 : decode cX3_becomeLike 48 = .ok (.return_, 1) := by decide +kernel
theorem dX4_init_0 : decode cX4_init 0 = .ok (.aload_n 0, 1) := by decide +kernel
theorem dX4_init_1 : decode cX4_init 1 = .ok (.invokespecial 1, 3) := by decide +kernel
theorem dX4_init_4 : decode cX4_init 4 = .ok (.aload_n 0, 1) := by decide +kernel
theorem dX4_init_5 : decode cX4_init 5 = .ok (.iload_n 1, 1) := by decide +kernel
theorem dX4_init_6 : decode cX4_init 6 = .ok (.putfield 7, 3) := by decide +kernel
theorem dX4_init_9 : decode cX4_init 9 = .ok (.aload_n 0, 1) := by decide +kernel
theorem dX4_init_10 : decode cX4_init 10 = .ok (.iload_n 2, 1) := by decide +kernel
theorem dX4_init_11 : decode cX4_init 11 = .ok (.putfield 13, 3) := by decide +kernel
theorem dX4_init_14 : decode cX4_init 14 = .ok (.return_, 1) := by decide +kernel
theorem dX4_setTo_0 : decode cX4_setTo 0 = .ok (.aload_n 0, 1) := by decide +kernel
theorem dX4_setTo_1 : decode cX4_setTo 1 = .ok (.getfield 16, 3) := by decide +kernel
theorem dX4_setTo_4 : decode cX4_setTo 4 = .ok (.ifCond .ne 8, 3) := by decide +kernel
theorem dX4_setTo_7 : decode cX4_setTo 7 = .ok (.aload_n 0, 1) := by decide +kernel
theorem dX4_setTo_8 : decode cX4_setTo 8 = .ok (.iload_n 1, 1) := by decide +kernel
theorem dX4_setTo_9 : decode cX4_setTo 9 = .ok (.putfield 20, 3) := by decide +kernel
theorem dX4_setTo_12 : decode cX4_setTo 12 = .ok (.return_, 1) := by decide +kernel
theorem dX4_turn_0 : decode cX4_turn 0 = .ok (.aload_n 0, 1) := by decide +kernel
theorem dX4_turn_1 : decode cX4_turn 1 = .ok (.getfield 16, 3) := by decide +kernel
theorem dX4_turn_4 : decode cX4_turn 4 = .ok (.ifCond .ne 18, 3) := by decide +kernel
theorem dX4_turn_7 : decode cX4_turn 7 = .ok (.aload_n 0, 1) := by decide +kernel
theorem dX4_turn_8 : decode cX4_turn 8 = .ok (.aload_n 0, 1) := by decide +kernel
theorem dX4_turn_9 : decode cX4_turn 9 = .ok (.getfield 23, 3) := by decide +kernel
theorem dX4_turn_12 : decode cX4_turn 12 = .ok (.aload_n 0, 1) := by decide +kernel
theorem dX4_turn_13 : decode cX4_turn 13 = .ok (.getfield 20, 3) := by decide +kernel
theorem dX4_turn_16 : decode cX4_turn 16 = .ok (.invokestatic 26, 3) := by decide +kernel
theorem dX4_turn_19 : decode cX4_turn 19 = .ok (.putfield 23, 3) := by decide +kernel
theorem dX4_turn_22 : decode cX4_turn 22 = .ok (.return_, 1) := by decide +kernel
theorem dX4_trip_0 : decode cX4_trip 0 = .ok (.aload_n 0, 1) := by decide +kernel
theorem dX4_trip_1 : decode cX4_trip 1 = .ok (.iconst 1, 1) := by decide +kernel
theorem dX4_trip_2 : decode cX4_trip 2 = .ok (.putfield 16, 3) := by decide +kernel
theorem dX4_trip_5 : decode cX4_trip 5 = .ok (.aload_n 0, 1) := by decide +kernel
theorem dX4_trip_6 : decode cX4_trip 6 = .ok (.dup, 1) := by decide +kernel
theorem dX4_trip_7 : decode cX4_trip 7 = .ok (.getfield 32, 3) := by decide +kernel
theorem dX4_trip_10 : decode cX4_trip 10 = .ok (.iconst 1, 1) := by decide +kernel
theorem dX4_trip_11 : decode cX4_trip 11 = .ok (.iadd, 1) := by decide +kernel
theorem dX4_trip_12 : decode cX4_trip 12 = .ok (.putfield 32, 3) := by decide +kernel
theorem dX4_trip_15 : decode cX4_trip 15 = .ok (.aload_n 0, 1) := by decide +kernel
theorem dX4_trip_16 : decode cX4_trip 16 = .ok (.iconst 0, 1) := by decide +kernel
theorem dX4_trip_17 : decode cX4_trip 17 = .ok (.putfield 23, 3) := by decide +kernel
theorem dX4_trip_20 : decode cX4_trip 20 = .ok (.aload_n 0, 1) := by decide +kernel
theorem dX4_trip_21 : decode cX4_trip 21 = .ok (.iconst 0, 1) := by decide +kernel
theorem dX4_trip_22 : decode cX4_trip 22 = .ok (.putfield 20, 3) := by decide +kernel
theorem dX4_trip_25 : decode cX4_trip 25 = .ok (.return_, 1) := by decide +kernel
theorem dX4_becomeLike_0 : decode cX4_becomeLike 0 = .ok (.aload_n 0, 1) := by decide +kernel
theorem dX4_becomeLike_1 : decode cX4_becomeLike 1 = .ok (.aload_n 1, 1) := by decide +kernel
theorem dX4_becomeLike_2 : decode cX4_becomeLike 2 = .ok (.getfield 20, 3) := by decide +kernel
theorem dX4_becomeLike_5 : decode cX4_becomeLike 5 = .ok (.putfield 20, 3) := by decide +kernel
theorem dX4_becomeLike_8 : decode cX4_becomeLike 8 = .ok (.aload_n 0, 1) := by decide +kernel
theorem dX4_becomeLike_9 : decode cX4_becomeLike 9 = .ok (.aload_n 1, 1) := by decide +kernel
theorem dX4_becomeLike_10 : decode cX4_becomeLike 10 = .ok (.getfield 23, 3) := by decide +kernel
theorem dX4_becomeLike_13 : decode cX4_becomeLike 13 = .ok (.putfield 23, 3) := by decide +kernel
theorem dX4_becomeLike_16 : decode cX4_becomeLike 16 = .ok (.aload_n 0, 1) := by decide +kernel
theorem dX4_becomeLike_17 : decode cX4_becomeLike 17 = .ok (.aload_n 1, 1) := by decide +kernel
theorem dX4_becomeLike_18 : decode cX4_becomeLike 18 = .ok (.getfield 16, 3) := by decide +kernel
theorem dX4_becomeLike_21 : decode cX4_becomeLike 21 = .ok (.putfield 16, 3) := by decide +kernel
theorem dX4_becomeLike_24 : decode cX4_becomeLike 24 = .ok (.aload_n 0, 1) := by decide +kernel
theorem dX4_becomeLike_25 : decode cX4_becomeLike 25 = .ok (.aload_n 1, 1) := by decide +kernel
theorem dX4_becomeLike_26 : decode cX4_becomeLike 26 = .ok (.getfield 32, 3) := by decide +kernel
theorem dX4_becomeLike_29 : decode cX4_becomeLike 29 = .ok (.putfield 32, 3) := by decide +kernel
theorem dX4_becomeLike_32 : decode cX4_becomeLike 32 = .ok (.return_, 1) := by decide +kernel
theorem dX5_init_0 : decode cX5_init 0 = .ok (.aload_n 0, 1) := by decide +kernel
theorem dX5_init_1 : decode cX5_init 1 = .ok (.invokespecial 3, 3) := by decide +kernel
theorem dX5_init_4 : decode cX5_init 4 = .ok (.aload_n 0, 1) := by decide +kernel
theorem dX5_init_5 : decode cX5_init 5 = .ok (.new 9, 3) := by decide +kernel
theorem dX5_init_8 : decode cX5_init 8 = .ok (.dup, 1) := by decide +kernel
theorem dX5_init_9 : decode cX5_init 9 = .ok (.invokespecial 11, 3) := by decide +kernel
theorem dX5_init_12 : decode cX5_init 12 = .ok (.putfield 12, 3) := by decide +kernel
theorem dX5_init_15 : decode cX5_init 15 = .ok (.aload_n 0, 1) := by decide +kernel
theorem dX5_init_16 : decode cX5_init 16 = .ok (.new 9, 3) := by decide +kernel
theorem dX5_init_19 : decode cX5_init 19 = .ok (.dup, 1) := by decide +kernel
theorem dX5_init_20 : decode cX5_init 20 = .ok (.invokespecial 11, 3) := by decide +kernel
theorem dX5_init_23 : decode cX5_init 23 = .ok (.putfield 18, 3) := by decide +kernel
theorem dX5_init_26 : decode cX5_init 26 = .ok (.aload_n 0, 1) := by decide +kernel
theorem dX5_init_27 : decode cX5_init 27 = .ok (.new 9, 3) := by decide +kernel
theorem dX5_init_30 : decode cX5_init 30 = .ok (.dup, 1) := by decide +kernel
theorem dX5_init_31 : decode cX5_init 31 = .ok (.invokespecial 11, 3) := by decide +kernel
theorem dX5_init_34 : decode cX5_init 34 = .ok (.putfield 21, 3) := by decide +kernel
theorem dX5_init_37 : decode cX5_init 37 = .ok (.aload_n 0, 1) := by decide +kernel
theorem dX5_init_38 : decode cX5_init 38 = .ok (.new 24, 3) := by decide +kernel
theorem dX5_init_41 : decode cX5_init 41 = .ok (.dup, 1) := by decide +kernel
theorem dX5_init_42 : decode cX5_init 42 = .ok (.invokespecial 26, 3) := by decide +kernel
theorem dX5_init_45 : decode cX5_init 45 = .ok (.putfield 27, 3) := by decide +kernel
theorem dX5_init_48 : decode cX5_init 48 = .ok (.aload_n 0, 1) := by decide +kernel
theorem dX5_init_49 : decode cX5_init 49 = .ok (.sipush 3000, 3) := by decide +kernel
theorem dX5_init_52 : decode cX5_init 52 = .ok (.putfield 31, 3) := by decide +kernel
theorem dX5_init_55 : decode cX5_init 55 = .ok (.return_, 1) := by decide +kernel
theorem dX5_addJet_0 : decode cX5_addJet 0 = .ok (.iload_n 1, 1) := by decide +kernel
theorem dX5_addJet_1 : decode cX5_addJet 1 = .ok (.ifCond .lt 44, 3) := by decide +kernel
theorem dX5_addJet_4 : decode cX5_addJet 4 = .ok (.iload_n 1, 1) := by decide +kernel
theorem dX5_addJet_5 : decode cX5_addJet 5 = .ok (.aload_n 0, 1) := by decide +kernel
theorem dX5_addJet_6 : decode cX5_addJet 6 = .ok (.getfield 12, 3) := by decide +kernel
theorem dX5_addJet_9 : decode cX5_addJet 9 = .ok (.invokevirtual 35, 3) := by decide +kernel
theorem dX5_addJet_12 : decode cX5_addJet 12 = .ok (.if_icmp .ge 33, 3) := by decide +kernel
theorem dX5_addJet_15 : decode cX5_addJet 15 = .ok (.aload_n 0, 1) := by decide +kernel
theorem dX5_addJet_16 : decode cX5_addJet 16 = .ok (.getfield 18, 3) := by decide +kernel
theorem dX5_addJet_19 : decode cX5_addJet 19 = .ok (.new 39, 3) := by decide +kernel
theorem dX5_addJet_22 : decode cX5_addJet 22 = .ok (.dup, 1) := by decide +kernel
theorem dX5_addJet_23 : decode cX5_addJet 23 = .ok (.aload_n 0, 1) := by decide +kernel
theorem dX5_addJet_24 : decode cX5_addJet 24 = .ok (.getfield 12, 3) := by decide +kernel
theorem dX5_addJet_27 : decode cX5_addJet 27 = .ok (.iload_n 1, 1) := by decide +kernel
theorem dX5_addJet_28 : decode cX5_addJet 28 = .ok (.invokevirtual 41, 3) := by decide +kernel
theorem dX5_addJet_31 : decode cX5_addJet 31 = .ok (.checkcast 45, 3) := by decide +kernel
theorem dX5_addJet_34 : decode cX5_addJet 34 = .ok (.iload_n 2, 1) := by decide +kernel
theorem dX5_addJet_35 : decode cX5_addJet 35 = .ok (.iload_n 3, 1) := by decide +kernel
theorem dX5_addJet_36 : decode cX5_addJet 36 = .ok (.iload 4, 2) := by decide +kernel
theorem dX5_addJet_38 : decode cX5_addJet 38 = .ok (.invokespecial 47, 3) := by decide +kernel
theorem dX5_addJet_41 : decode cX5_addJet 41 = .ok (.invokevirtual 50, 3) := by decide +kernel
theorem dX5_addJet_44 : decode cX5_addJet 44 = .ok (.pop, 1) := by decide +kernel
theorem dX5_addJet_45 : decode cX5_addJet 45 = .ok (.return_, 1) := by decide +kernel
theorem dX5_setPumpOfNumber_0 : decode cX5_setPumpOfNumber 0 = .ok (.iload_n 1, 1) := by decide +kernel
theorem dX5_setPumpOfNumber_1 : decode cX5_setPumpOfNumber 1 = .ok (.ifCond .lt 29, 3) := by decide +kernel
theorem dX5_setPumpOfNumber_4 : decode cX5_setPumpOfNumber 4 = .ok (.iload_n 1, 1) := by decide +kernel
theorem dX5_setPumpOfNumber_5 : decode cX5_setPumpOfNumber 5 = .ok (.aload_n 0, 1) := by decide +kernel
theorem dX5_setPumpOfNumber_6 : decode cX5_setPumpOfNumber 6 = .ok (.getfield 12, 3) := by decide +kernel
theorem dX5_setPumpOfNumber_9 : decode cX5_setPumpOfNumber 9 = .ok (.invokevirtual 35, 3) := by decide +kernel
theorem dX5_setPumpOfNumber_12 : decode cX5_setPumpOfNumber 12 = .ok (.if_icmp .ge 18, 3) := by decide +kernel
theorem dX5_setPumpOfNumber_15 : decode cX5_setPumpOfNumber 15 = .ok (.aload_n 0, 1) := by decide +kernel
theorem dX5_setPumpOfNumber_16 : decode cX5_setPumpOfNumber 16 = .ok (.getfield 12, 3) := by decide +kernel
theorem dX5_setPumpOfNumber_19 : decode cX5_setPumpOfNumber 19 = .ok (.iload_n 1, 1) := by decide +kernel
theorem dX5_setPumpOfNumber_20 : decode cX5_setPumpOfNumber 20 = .ok (.invokevirtual 41, 3) := by decide +kernel
theorem dX5_setPumpOfNumber_23 : decode cX5_setPumpOfNumber 23 = .ok (.checkcast 45, 3) := by decide +kernel
theorem dX5_setPumpOfNumber_26 : decode cX5_setPumpOfNumber 26 = .ok (.iload_n 2, 1) := by decide +kernel
theorem dX5_setPumpOfNumber_27 : decode cX5_setPumpOfNumber 27 = .ok (.invokevirtual 54, 3) := by decide +kernel
theorem dX5_setPumpOfNumber_30 : decode cX5_setPumpOfNumber 30 = .ok (.return_, 1) := by decide +kernel
theorem dX5_heightOfNumber_0 : decode cX5_heightOfNumber 0 = .ok (.iload_n 1, 1) := by decide +kernel
theorem dX5_heightOfNumber_1 : decode cX5_heightOfNumber 1 = .ok (.ifCond .lt 32, 3) := by decide +kernel
theorem dX5_heightOfNumber_4 : decode cX5_heightOfNumber 4 = .ok (.iload_n 1, 1) := by decide +kernel
theorem dX5_heightOfNumber_5 : decode cX5_heightOfNumber 5 = .ok (.aload_n 0, 1) := by decide +kernel
theorem dX5_heightOfNumber_6 : decode cX5_heightOfNumber 6 = .ok (.getfield 18, 3) := by decide +kernel
theorem dX5_heightOfNumber_9 : decode cX5_heightOfNumber 9 = .ok (.invokevirtual 35, 3) := by decide +kernel
theorem dX5_heightOfNumber_12 : decode cX5_heightOfNumber 12 = .ok (.if_icmp .ge 21, 3) := by decide +kernel
theorem dX5_heightOfNumber_15 : decode cX5_heightOfNumber 15 = .ok (.aload_n 0, 1) := by decide +kernel
theorem dX5_heightOfNumber_16 : decode cX5_heightOfNumber 16 = .ok (.aload_n 0, 1) := by decide +kernel
theorem dX5_heightOfNumber_17 : decode cX5_heightOfNumber 17 = .ok (.getfield 18, 3) := by decide +kernel
theorem dX5_heightOfNumber_20 : decode cX5_heightOfNumber 20 = .ok (.iload_n 1, 1) := by decide +kernel
theorem dX5_heightOfNumber_21 : decode cX5_heightOfNumber 21 = .ok (.invokevirtual 41, 3) := by decide +kernel
theorem dX5_heightOfNumber_24 : decode cX5_heightOfNumber 24 = .ok (.checkcast 39, 3) := by decide +kernel
theorem dX5_heightOfNumber_27 : decode cX5_heightOfNumber 27 = .ok (.invokevirtual 58, 3) := by decide +kernel
theorem dX5_heightOfNumber_30 : decode cX5_heightOfNumber 30 = .ok (.goto 4, 3) := by decide +kernel
theorem dX5_heightOfNumber_33 : decode cX5_heightOfNumber 33 = .ok (.iconst 0, 1) := by decide +kernel
theorem dX5_heightOfNumber_34 : decode cX5_heightOfNumber 34 = .ok (.ireturn, 1) := by decide +kernel
theorem dX5_tick_0 : decode cX5_tick 0 = .ok (.aload_n 0, 1) := by decide +kernel
theorem dX5_tick_1 : decode cX5_tick 1 = .ok (.dup, 1) := by decide +kernel
theorem dX5_tick_2 : decode cX5_tick 2 = .ok (.getfield 62, 3) := by decide +kernel
theorem dX5_tick_5 : decode cX5_tick 5 = .ok (.iconst 1, 1) := by decide +kernel
theorem dX5_tick_6 : decode cX5_tick 6 = .ok (.iadd, 1) := by decide +kernel
theorem dX5_tick_7 : decode cX5_tick 7 = .ok (.putfield 62, 3) := by decide +kernel
theorem dX5_tick_10 : decode cX5_tick 10 = .ok (.aload_n 0, 1) := by decide +kernel
theorem dX5_tick_11 : decode cX5_tick 11 = .ok (.getfield 65, 3) := by decide +kernel
theorem dX5_tick_14 : decode cX5_tick 14 = .ok (.ifCond .ne 7, 3) := by decide +kernel
theorem dX5_tick_17 : decode cX5_tick 17 = .ok (.aload_n 0, 1) := by decide +kernel
theorem dX5_tick_18 : decode cX5_tick 18 = .ok (.invokevirtual 69, 3) := by decide +kernel
theorem dX5_tick_21 : decode cX5_tick 21 = .ok (.aload_n 0, 1) := by decide +kernel
theorem dX5_tick_22 : decode cX5_tick 22 = .ok (.invokevirtual 72, 3) := by decide +kernel
theorem dX5_tick_25 : decode cX5_tick 25 = .ok (.aload_n 0, 1) := by decide +kernel
theorem dX5_tick_26 : decode cX5_tick 26 = .ok (.invokevirtual 75, 3) := by decide +kernel
theorem dX5_tick_29 : decode cX5_tick 29 = .ok (.istore_n 1, 1) := by decide +kernel
theorem dX5_tick_30 : decode cX5_tick 30 = .ok (.aload_n 0, 1) := by decide +kernel
theorem dX5_tick_31 : decode cX5_tick 31 = .ok (.invokevirtual 78, 3) := by decide +kernel
theorem dX5_tick_34 : decode cX5_tick 34 = .ok (.aload_n 0, 1) := by decide +kernel
theorem dX5_tick_35 : decode cX5_tick 35 = .ok (.invokevirtual 81, 3) := by decide +kernel
theorem dX5_tick_38 : decode cX5_tick 38 = .ok (.aload_n 0, 1) := by decide +kernel
theorem dX5_tick_39 : decode cX5_tick 39 = .ok (.invokevirtual 84, 3) := by decide +kernel
theorem dX5_tick_42 : decode cX5_tick 42 = .ok (.aload_n 0, 1) := by decide +kernel
theorem dX5_tick_43 : decode cX5_tick 43 = .ok (.invokevirtual 87, 3) := by decide +kernel
theorem dX5_tick_46 : decode cX5_tick 46 = .ok (.iload_n 1, 1) := by decide +kernel
theorem dX5_tick_47 : decode cX5_tick 47 = .ok (.ireturn, 1) := by decide +kernel
theorem dX5_doStepsDue_0 : decode cX5_doStepsDue 0 = .ok (.iconst 0, 1) := by decide +kernel
theorem dX5_doStepsDue_1 : decode cX5_doStepsDue 1 = .ok (.istore_n 1, 1) := by decide +kernel
theorem dX5_doStepsDue_2 : decode cX5_doStepsDue 2 = .ok (.iload_n 1, 1) := by decide +kernel
theorem dX5_doStepsDue_3 : decode cX5_doStepsDue 3 = .ok (.aload_n 0, 1) := by decide +kernel
theorem dX5_doStepsDue_4 : decode cX5_doStepsDue 4 = .ok (.getfield 21, 3) := by decide +kernel
theorem dX5_doStepsDue_7 : decode cX5_doStepsDue 7 = .ok (.invokevirtual 35, 3) := by decide +kernel
theorem dX5_doStepsDue_10 : decode cX5_doStepsDue 10 = .ok (.if_icmp .ge 76, 3) := by decide +kernel
theorem dX5_doStepsDue_13 : decode cX5_doStepsDue 13 = .ok (.aload_n 0, 1) := by decide +kernel
theorem dX5_doStepsDue_14 : decode cX5_doStepsDue 14 = .ok (.getfield 21, 3) := by decide +kernel
theorem dX5_doStepsDue_17 : decode cX5_doStepsDue 17 = .ok (.iload_n 1, 1) := by decide +kernel
theorem dX5_doStepsDue_18 : decode cX5_doStepsDue 18 = .ok (.invokevirtual 41, 3) := by decide +kernel
theorem dX5_doStepsDue_21 : decode cX5_doStepsDue 21 = .ok (.checkcast 90, 3) := by decide +kernel
theorem dX5_doStepsDue_24 : decode cX5_doStepsDue 24 = .ok (.astore_n 2, 1) := by decide +kernel
theorem dX5_doStepsDue_25 : decode cX5_doStepsDue 25 = .ok (.iconst 0, 1) := by decide +kernel
theorem dX5_doStepsDue_26 : decode cX5_doStepsDue 26 = .ok (.istore_n 3, 1) := by decide +kernel
theorem dX5_doStepsDue_27 : decode cX5_doStepsDue 27 = .ok (.iload_n 3, 1) := by decide +kernel
theorem dX5_doStepsDue_28 : decode cX5_doStepsDue 28 = .ok (.aload_n 2, 1) := by decide +kernel
theorem dX5_doStepsDue_29 : decode cX5_doStepsDue 29 = .ok (.getfield 92, 3) := by decide +kernel
theorem dX5_doStepsDue_32 : decode cX5_doStepsDue 32 = .ok (.invokevirtual 35, 3) := by decide +kernel
theorem dX5_doStepsDue_35 : decode cX5_doStepsDue 35 = .ok (.if_icmp .ge 45, 3) := by decide +kernel
theorem dX5_doStepsDue_38 : decode cX5_doStepsDue 38 = .ok (.aload_n 2, 1) := by decide +kernel
theorem dX5_doStepsDue_39 : decode cX5_doStepsDue 39 = .ok (.getfield 92, 3) := by decide +kernel
theorem dX5_doStepsDue_42 : decode cX5_doStepsDue 42 = .ok (.iload_n 3, 1) := by decide +kernel
theorem dX5_doStepsDue_43 : decode cX5_doStepsDue 43 = .ok (.invokevirtual 41, 3) := by decide +kernel
theorem dX5_doStepsDue_46 : decode cX5_doStepsDue 46 = .ok (.checkcast 95, 3) := by decide +kernel
theorem dX5_doStepsDue_49 : decode cX5_doStepsDue 49 = .ok (.astore 4, 2) := by decide +kernel
theorem dX5_doStepsDue_51 : decode cX5_doStepsDue 51 = .ok (.aload_n 2, 1) := by decide +kernel
theorem dX5_doStepsDue_52 : decode cX5_doStepsDue 52 = .ok (.aload 4, 2) := by decide +kernel
theorem dX5_doStepsDue_54 : decode cX5_doStepsDue 54 = .ok (.invokevirtual 97, 3) := by decide +kernel
theorem dX5_doStepsDue_57 : decode cX5_doStepsDue 57 = .ok (.aload_n 0, 1) := by decide +kernel
theorem dX5_doStepsDue_58 : decode cX5_doStepsDue 58 = .ok (.getfield 62, 3) := by decide +kernel
theorem dX5_doStepsDue_61 : decode cX5_doStepsDue 61 = .ok (.if_icmp .ne 13, 3) := by decide +kernel
theorem dX5_doStepsDue_64 : decode cX5_doStepsDue 64 = .ok (.aload_n 0, 1) := by decide +kernel
theorem dX5_doStepsDue_65 : decode cX5_doStepsDue 65 = .ok (.aload 4, 2) := by decide +kernel
theorem dX5_doStepsDue_67 : decode cX5_doStepsDue 67 = .ok (.aload_n 2, 1) := by decide +kernel
theorem dX5_doStepsDue_68 : decode cX5_doStepsDue 68 = .ok (.getfield 101, 3) := by decide +kernel
theorem dX5_doStepsDue_71 : decode cX5_doStepsDue 71 = .ok (.invokevirtual 104, 3) := by decide +kernel
theorem dX5_doStepsDue_74 : decode cX5_doStepsDue 74 = .ok (.iinc 3 1, 3) := by decide +kernel
theorem dX5_doStepsDue_77 : decode cX5_doStepsDue 77 = .ok (.goto (-50), 3) := by decide +kernel
theorem dX5_doStepsDue_80 : decode cX5_doStepsDue 80 = .ok (.iinc 1 1, 3) := by decide +kernel
theorem dX5_doStepsDue_83 : decode cX5_doStepsDue 83 = .ok (.goto (-81), 3) := by decide +kernel
theorem dX5_doStepsDue_86 : decode cX5_doStepsDue 86 = .ok (.return_, 1) := by decide +kernel
theorem dX5_doStep_0 : decode cX5_doStep 0 = .ok (.aload_n 0, 1) := by decide +kernel
theorem dX5_doStep_1 : decode cX5_doStep 1 = .ok (.getfield 18, 3) := by decide +kernel
theorem dX5_doStep_4 : decode cX5_doStep 4 = .ok (.invokevirtual 35, 3) := by decide +kernel
theorem dX5_doStep_7 : decode cX5_doStep 7 = .ok (.istore_n 3, 1) := by decide +kernel
theorem dX5_doStep_8 : decode cX5_doStep 8 = .ok (.iconst 0, 1) := by decide +kernel
theorem dX5_doStep_9 : decode cX5_doStep 9 = .ok (.istore 4, 2) := by decide +kernel
theorem dX5_doStep_11 : decode cX5_doStep 11 = .ok (.iload 4, 2) := by decide +kernel
theorem dX5_doStep_13 : decode cX5_doStep 13 = .ok (.iload_n 3, 1) := by decide +kernel
theorem dX5_doStep_14 : decode cX5_doStep 14 = .ok (.if_icmp .ge 43, 3) := by decide +kernel
theorem dX5_doStep_17 : decode cX5_doStep 17 = .ok (.aload_n 1, 1) := by decide +kernel
theorem dX5_doStep_18 : decode cX5_doStep 18 = .ok (.iload 4, 2) := by decide +kernel
theorem dX5_doStep_20 : decode cX5_doStep 20 = .ok (.invokevirtual 108, 3) := by decide +kernel
theorem dX5_doStep_23 : decode cX5_doStep 23 = .ok (.ifCond .eq 28, 3) := by decide +kernel
theorem dX5_doStep_26 : decode cX5_doStep 26 = .ok (.aload_n 0, 1) := by decide +kernel
theorem dX5_doStep_27 : decode cX5_doStep 27 = .ok (.getfield 18, 3) := by decide +kernel
theorem dX5_doStep_30 : decode cX5_doStep 30 = .ok (.iload 4, 2) := by decide +kernel
theorem dX5_doStep_32 : decode cX5_doStep 32 = .ok (.iload_n 2, 1) := by decide +kernel
theorem dX5_doStep_33 : decode cX5_doStep 33 = .ok (.iadd, 1) := by decide +kernel
theorem dX5_doStep_34 : decode cX5_doStep 34 = .ok (.iload_n 3, 1) := by decide +kernel
theorem dX5_doStep_35 : decode cX5_doStep 35 = .ok (.invokestatic 112, 3) := by decide +kernel
theorem dX5_doStep_38 : decode cX5_doStep 38 = .ok (.invokevirtual 41, 3) := by decide +kernel
theorem dX5_doStep_41 : decode cX5_doStep 41 = .ok (.checkcast 39, 3) := by decide +kernel
theorem dX5_doStep_44 : decode cX5_doStep 44 = .ok (.aload_n 1, 1) := by decide +kernel
theorem dX5_doStep_45 : decode cX5_doStep 45 = .ok (.getfield 118, 3) := by decide +kernel
theorem dX5_doStep_48 : decode cX5_doStep 48 = .ok (.invokevirtual 121, 3) := by decide +kernel
theorem dX5_doStep_51 : decode cX5_doStep 51 = .ok (.iinc 4 1, 3) := by decide +kernel
theorem dX5_doStep_54 : decode cX5_doStep 54 = .ok (.goto (-43), 3) := by decide +kernel
theorem dX5_doStep_57 : decode cX5_doStep 57 = .ok (.return_, 1) := by decide +kernel
theorem dX5_turnDrivesAndValves_0 : decode cX5_turnDrivesAndValves 0 = .ok (.iconst 0, 1) := by decide +kernel
theorem dX5_turnDrivesAndValves_1 : decode cX5_turnDrivesAndValves 1 = .ok (.istore_n 1, 1) := by decide +kernel
theorem dX5_turnDrivesAndValves_2 : decode cX5_turnDrivesAndValves 2 = .ok (.iload_n 1, 1) := by decide +kernel
theorem dX5_turnDrivesAndValves_3 : decode cX5_turnDrivesAndValves 3 = .ok (.aload_n 0, 1) := by decide +kernel
theorem dX5_turnDrivesAndValves_4 : decode cX5_turnDrivesAndValves 4 = .ok (.getfield 12, 3) := by decide +kernel
theorem dX5_turnDrivesAndValves_7 : decode cX5_turnDrivesAndValves 7 = .ok (.invokevirtual 35, 3) := by decide +kernel
theorem dX5_turnDrivesAndValves_10 : decode cX5_turnDrivesAndValves 10 = .ok (.if_icmp .ge 23, 3) := by decide +kernel
theorem dX5_turnDrivesAndValves_13 : decode cX5_turnDrivesAndValves 13 = .ok (.aload_n 0, 1) := by decide +kernel
theorem dX5_turnDrivesAndValves_14 : decode cX5_turnDrivesAndValves 14 = .ok (.getfield 12, 3) := by decide +kernel
theorem dX5_turnDrivesAndValves_17 : decode cX5_turnDrivesAndValves 17 = .ok (.iload_n 1, 1) := by decide +kernel
theorem dX5_turnDrivesAndValves_18 : decode cX5_turnDrivesAndValves 18 = .ok (.invokevirtual 41, 3) := by decide +kernel
theorem dX5_turnDrivesAndValves_21 : decode cX5_turnDrivesAndValves 21 = .ok (.checkcast 45, 3) := by decide +kernel
theorem dX5_turnDrivesAndValves_24 : decode cX5_turnDrivesAndValves 24 = .ok (.invokevirtual 124, 3) := by decide +kernel
theorem dX5_turnDrivesAndValves_27 : decode cX5_turnDrivesAndValves 27 = .ok (.iinc 1 1, 3) := by decide +kernel
theorem dX5_turnDrivesAndValves_30 : decode cX5_turnDrivesAndValves 30 = .ok (.goto (-28), 3) := by decide +kernel
theorem dX5_turnDrivesAndValves_33 : decode cX5_turnDrivesAndValves 33 = .ok (.iconst 0, 1) := by decide +kernel
theorem dX5_turnDrivesAndValves_34 : decode cX5_turnDrivesAndValves 34 = .ok (.istore_n 1, 1) := by decide +kernel
theorem dX5_turnDrivesAndValves_35 : decode cX5_turnDrivesAndValves 35 = .ok (.iload_n 1, 1) := by decide +kernel
theorem dX5_turnDrivesAndValves_36 : decode cX5_turnDrivesAndValves 36 = .ok (.aload_n 0, 1) := by decide +kernel
theorem dX5_turnDrivesAndValves_37 : decode cX5_turnDrivesAndValves 37 = .ok (.getfield 18, 3) := by decide +kernel
theorem dX5_turnDrivesAndValves_40 : decode cX5_turnDrivesAndValves 40 = .ok (.invokevirtual 35, 3) := by decide +kernel
theorem dX5_turnDrivesAndValves_43 : decode cX5_turnDrivesAndValves 43 = .ok (.if_icmp .ge 23, 3) := by decide +kernel
theorem dX5_turnDrivesAndValves_46 : decode cX5_turnDrivesAndValves 46 = .ok (.aload_n 0, 1) := by decide +kernel
theorem dX5_turnDrivesAndValves_47 : decode cX5_turnDrivesAndValves 47 = .ok (.getfield 18, 3) := by decide +kernel
theorem dX5_turnDrivesAndValves_50 : decode cX5_turnDrivesAndValves 50 = .ok (.iload_n 1, 1) := by decide +kernel
theorem dX5_turnDrivesAndValves_51 : decode cX5_turnDrivesAndValves 51 = .ok (.invokevirtual 41, 3) := by decide +kernel
theorem dX5_turnDrivesAndValves_54 : decode cX5_turnDrivesAndValves 54 = .ok (.checkcast 39, 3) := by decide +kernel
theorem dX5_turnDrivesAndValves_57 : decode cX5_turnDrivesAndValves 57 = .ok (.invokevirtual 127, 3) := by decide +kernel
theorem dX5_turnDrivesAndValves_60 : decode cX5_turnDrivesAndValves 60 = .ok (.iinc 1 1, 3) := by decide +kernel
theorem dX5_turnDrivesAndValves_63 : decode cX5_turnDrivesAndValves 63 = .ok (.goto (-28), 3) := by decide +kernel
theorem dX5_turnDrivesAndValves_66 : decode cX5_turnDrivesAndValves 66 = .ok (.return_, 1) := by decide +kernel
theorem dX5_letFall_0 : decode cX5_letFall 0 = .ok (.aload_n 0, 1) := by decide +kernel
theorem dX5_letFall_1 : decode cX5_letFall 1 = .ok (.getfield 27, 3) := by decide +kernel
theorem dX5_letFall_4 : decode cX5_letFall 4 = .ok (.aload_n 0, 1) := by decide +kernel
theorem dX5_letFall_5 : decode cX5_letFall 5 = .ok (.getfield 62, 3) := by decide +kernel
theorem dX5_letFall_8 : decode cX5_letFall 8 = .ok (.invokevirtual 128, 3) := by decide +kernel
theorem dX5_letFall_11 : decode cX5_letFall 11 = .ok (.istore_n 1, 1) := by decide +kernel
theorem dX5_letFall_12 : decode cX5_letFall 12 = .ok (.aload_n 0, 1) := by decide +kernel
theorem dX5_letFall_13 : decode cX5_letFall 13 = .ok (.getfield 27, 3) := by decide +kernel
theorem dX5_letFall_16 : decode cX5_letFall 16 = .ok (.aload_n 0, 1) := by decide +kernel
theorem dX5_letFall_17 : decode cX5_letFall 17 = .ok (.getfield 62, 3) := by decide +kernel
theorem dX5_letFall_20 : decode cX5_letFall 20 = .ok (.invokevirtual 132, 3) := by decide +kernel
theorem dX5_letFall_23 : decode cX5_letFall 23 = .ok (.istore_n 2, 1) := by decide +kernel
theorem dX5_letFall_24 : decode cX5_letFall 24 = .ok (.aload_n 0, 1) := by decide +kernel
theorem dX5_letFall_25 : decode cX5_letFall 25 = .ok (.iload_n 2, 1) := by decide +kernel
theorem dX5_letFall_26 : decode cX5_letFall 26 = .ok (.invokevirtual 135, 3) := by decide +kernel
theorem dX5_letFall_29 : decode cX5_letFall 29 = .ok (.aload_n 0, 1) := by decide +kernel
theorem dX5_letFall_30 : decode cX5_letFall 30 = .ok (.dup, 1) := by decide +kernel
theorem dX5_letFall_31 : decode cX5_letFall 31 = .ok (.getfield 138, 3) := by decide +kernel
theorem dX5_letFall_34 : decode cX5_letFall 34 = .ok (.aload_n 0, 1) := by decide +kernel
theorem dX5_letFall_35 : decode cX5_letFall 35 = .ok (.getfield 27, 3) := by decide +kernel
theorem dX5_letFall_38 : decode cX5_letFall 38 = .ok (.aload_n 0, 1) := by decide +kernel
theorem dX5_letFall_39 : decode cX5_letFall 39 = .ok (.getfield 62, 3) := by decide +kernel
theorem dX5_letFall_42 : decode cX5_letFall 42 = .ok (.invokevirtual 141, 3) := by decide +kernel
theorem dX5_letFall_45 : decode cX5_letFall 45 = .ok (.iadd, 1) := by decide +kernel
theorem dX5_letFall_46 : decode cX5_letFall 46 = .ok (.putfield 138, 3) := by decide +kernel
theorem dX5_letFall_49 : decode cX5_letFall 49 = .ok (.aload_n 0, 1) := by decide +kernel
theorem dX5_letFall_50 : decode cX5_letFall 50 = .ok (.dup, 1) := by decide +kernel
theorem dX5_letFall_51 : decode cX5_letFall 51 = .ok (.getfield 144, 3) := by decide +kernel
theorem dX5_letFall_54 : decode cX5_letFall 54 = .ok (.iload_n 1, 1) := by decide +kernel
theorem dX5_letFall_55 : decode cX5_letFall 55 = .ok (.iload_n 2, 1) := by decide +kernel
theorem dX5_letFall_56 : decode cX5_letFall 56 = .ok (.isub, 1) := by decide +kernel
theorem dX5_letFall_57 : decode cX5_letFall 57 = .ok (.iadd, 1) := by decide +kernel
theorem dX5_letFall_58 : decode cX5_letFall 58 = .ok (.putfield 144, 3) := by decide +kernel
theorem dX5_letFall_61 : decode cX5_letFall 61 = .ok (.aload_n 0, 1) := by decide +kernel
theorem dX5_letFall_62 : decode cX5_letFall 62 = .ok (.getfield 27, 3) := by decide +kernel
theorem dX5_letFall_65 : decode cX5_letFall 65 = .ok (.aload_n 0, 1) := by decide +kernel
theorem dX5_letFall_66 : decode cX5_letFall 66 = .ok (.getfield 62, 3) := by decide +kernel
theorem dX5_letFall_69 : decode cX5_letFall 69 = .ok (.invokevirtual 147, 3) := by decide +kernel
theorem dX5_letFall_72 : decode cX5_letFall 72 = .ok (.iload_n 1, 1) := by decide +kernel
theorem dX5_letFall_73 : decode cX5_letFall 73 = .ok (.ireturn, 1) := by decide +kernel
theorem dX5_throwWater_0 : decode cX5_throwWater 0 = .ok (.iconst 0, 1) := by decide +kernel
theorem dX5_throwWater_1 : decode cX5_throwWater 1 = .ok (.istore_n 1, 1) := by decide +kernel
theorem dX5_throwWater_2 : decode cX5_throwWater 2 = .ok (.iload_n 1, 1) := by decide +kernel
theorem dX5_throwWater_3 : decode cX5_throwWater 3 = .ok (.aload_n 0, 1) := by decide +kernel
theorem dX5_throwWater_4 : decode cX5_throwWater 4 = .ok (.getfield 18, 3) := by decide +kernel
theorem dX5_throwWater_7 : decode cX5_throwWater 7 = .ok (.invokevirtual 35, 3) := by decide +kernel
theorem dX5_throwWater_10 : decode cX5_throwWater 10 = .ok (.if_icmp .ge 90, 3) := by decide +kernel
theorem dX5_throwWater_13 : decode cX5_throwWater 13 = .ok (.aload_n 0, 1) := by decide +kernel
theorem dX5_throwWater_14 : decode cX5_throwWater 14 = .ok (.getfield 18, 3) := by decide +kernel
theorem dX5_throwWater_17 : decode cX5_throwWater 17 = .ok (.iload_n 1, 1) := by decide +kernel
theorem dX5_throwWater_18 : decode cX5_throwWater 18 = .ok (.invokevirtual 41, 3) := by decide +kernel
theorem dX5_throwWater_21 : decode cX5_throwWater 21 = .ok (.checkcast 39, 3) := by decide +kernel
theorem dX5_throwWater_24 : decode cX5_throwWater 24 = .ok (.astore_n 2, 1) := by decide +kernel
theorem dX5_throwWater_25 : decode cX5_throwWater 25 = .ok (.aload_n 0, 1) := by decide +kernel
theorem dX5_throwWater_26 : decode cX5_throwWater 26 = .ok (.aload_n 2, 1) := by decide +kernel
theorem dX5_throwWater_27 : decode cX5_throwWater 27 = .ok (.invokevirtual 58, 3) := by decide +kernel
theorem dX5_throwWater_30 : decode cX5_throwWater 30 = .ok (.istore_n 3, 1) := by decide +kernel
theorem dX5_throwWater_31 : decode cX5_throwWater 31 = .ok (.iload_n 3, 1) := by decide +kernel
theorem dX5_throwWater_32 : decode cX5_throwWater 32 = .ok (.ifCond .le 62, 3) := by decide +kernel
theorem dX5_throwWater_35 : decode cX5_throwWater 35 = .ok (.aload_n 2, 1) := by decide +kernel
theorem dX5_throwWater_36 : decode cX5_throwWater 36 = .ok (.invokevirtual 150, 3) := by decide +kernel
theorem dX5_throwWater_39 : decode cX5_throwWater 39 = .ok (.aload_n 0, 1) := by decide +kernel
theorem dX5_throwWater_40 : decode cX5_throwWater 40 = .ok (.getfield 31, 3) := by decide +kernel
theorem dX5_throwWater_43 : decode cX5_throwWater 43 = .ok (.invokestatic 153, 3) := by decide +kernel
theorem dX5_throwWater_46 : decode cX5_throwWater 46 = .ok (.istore 4, 2) := by decide +kernel
theorem dX5_throwWater_48 : decode cX5_throwWater 48 = .ok (.aload_n 0, 1) := by decide +kernel
theorem dX5_throwWater_49 : decode cX5_throwWater 49 = .ok (.dup, 1) := by decide +kernel
theorem dX5_throwWater_50 : decode cX5_throwWater 50 = .ok (.getfield 31, 3) := by decide +kernel
theorem dX5_throwWater_53 : decode cX5_throwWater 53 = .ok (.iload 4, 2) := by decide +kernel
theorem dX5_throwWater_55 : decode cX5_throwWater 55 = .ok (.isub, 1) := by decide +kernel
theorem dX5_throwWater_56 : decode cX5_throwWater 56 = .ok (.putfield 31, 3) := by decide +kernel
theorem dX5_throwWater_59 : decode cX5_throwWater 59 = .ok (.aload_n 2, 1) := by decide +kernel
theorem dX5_throwWater_60 : decode cX5_throwWater 60 = .ok (.dup, 1) := by decide +kernel
theorem dX5_throwWater_61 : decode cX5_throwWater 61 = .ok (.getfield 156, 3) := by decide +kernel
theorem dX5_throwWater_64 : decode cX5_throwWater 64 = .ok (.iload 4, 2) := by decide +kernel
theorem dX5_throwWater_66 : decode cX5_throwWater 66 = .ok (.iadd, 1) := by decide +kernel
theorem dX5_throwWater_67 : decode cX5_throwWater 67 = .ok (.putfield 156, 3) := by decide +kernel
theorem dX5_throwWater_70 : decode cX5_throwWater 70 = .ok (.aload_n 0, 1) := by decide +kernel
theorem dX5_throwWater_71 : decode cX5_throwWater 71 = .ok (.getfield 27, 3) := by decide +kernel
theorem dX5_throwWater_74 : decode cX5_throwWater 74 = .ok (.aload_n 0, 1) := by decide +kernel
theorem dX5_throwWater_75 : decode cX5_throwWater 75 = .ok (.getfield 62, 3) := by decide +kernel
theorem dX5_throwWater_78 : decode cX5_throwWater 78 = .ok (.iload_n 3, 1) := by decide +kernel
theorem dX5_throwWater_79 : decode cX5_throwWater 79 = .ok (.invokestatic 159, 3) := by decide +kernel
theorem dX5_throwWater_82 : decode cX5_throwWater 82 = .ok (.iadd, 1) := by decide +kernel
theorem dX5_throwWater_83 : decode cX5_throwWater 83 = .ok (.aload_n 0, 1) := by decide +kernel
theorem dX5_throwWater_84 : decode cX5_throwWater 84 = .ok (.aload_n 2, 1) := by decide +kernel
theorem dX5_throwWater_85 : decode cX5_throwWater 85 = .ok (.iload_n 3, 1) := by decide +kernel
theorem dX5_throwWater_86 : decode cX5_throwWater 86 = .ok (.invokevirtual 162, 3) := by decide +kernel
theorem dX5_throwWater_89 : decode cX5_throwWater 89 = .ok (.iload 4, 2) := by decide +kernel
theorem dX5_throwWater_91 : decode cX5_throwWater 91 = .ok (.invokevirtual 166, 3) := by decide +kernel
theorem dX5_throwWater_94 : decode cX5_throwWater 94 = .ok (.iinc 1 1, 3) := by decide +kernel
theorem dX5_throwWater_97 : decode cX5_throwWater 97 = .ok (.goto (-95), 3) := by decide +kernel
theorem dX5_throwWater_100 : decode cX5_throwWater 100 = .ok (.return_, 1) := by decide +kernel
theorem dX5_useEnergy_0 : decode cX5_useEnergy 0 = .ok (.iconst 0, 1) := by decide +kernel
theorem dX5_useEnergy_1 : decode cX5_useEnergy 1 = .ok (.istore_n 1, 1) := by decide +kernel
theorem dX5_useEnergy_2 : decode cX5_useEnergy 2 = .ok (.iload_n 1, 1) := by decide +kernel
theorem dX5_useEnergy_3 : decode cX5_useEnergy 3 = .ok (.aload_n 0, 1) := by decide +kernel
theorem dX5_useEnergy_4 : decode cX5_useEnergy 4 = .ok (.getfield 12, 3) := by decide +kernel
theorem dX5_useEnergy_7 : decode cX5_useEnergy 7 = .ok (.invokevirtual 35, 3) := by decide +kernel
theorem dX5_useEnergy_10 : decode cX5_useEnergy 10 = .ok (.if_icmp .ge 36, 3) := by decide +kernel
theorem dX5_useEnergy_13 : decode cX5_useEnergy 13 = .ok (.aload_n 0, 1) := by decide +kernel
theorem dX5_useEnergy_14 : decode cX5_useEnergy 14 = .ok (.getfield 12, 3) := by decide +kernel
theorem dX5_useEnergy_17 : decode cX5_useEnergy 17 = .ok (.iload_n 1, 1) := by decide +kernel
theorem dX5_useEnergy_18 : decode cX5_useEnergy 18 = .ok (.invokevirtual 41, 3) := by decide +kernel
theorem dX5_useEnergy_21 : decode cX5_useEnergy 21 = .ok (.checkcast 45, 3) := by decide +kernel
theorem dX5_useEnergy_24 : decode cX5_useEnergy 24 = .ok (.getfield 170, 3) := by decide +kernel
theorem dX5_useEnergy_27 : decode cX5_useEnergy 27 = .ok (.istore_n 2, 1) := by decide +kernel
theorem dX5_useEnergy_28 : decode cX5_useEnergy 28 = .ok (.aload_n 0, 1) := by decide +kernel
theorem dX5_useEnergy_29 : decode cX5_useEnergy 29 = .ok (.dup, 1) := by decide +kernel
theorem dX5_useEnergy_30 : decode cX5_useEnergy 30 = .ok (.getfield 173, 3) := by decide +kernel
theorem dX5_useEnergy_33 : decode cX5_useEnergy 33 = .ok (.iload_n 2, 1) := by decide +kernel
theorem dX5_useEnergy_34 : decode cX5_useEnergy 34 = .ok (.iload_n 2, 1) := by decide +kernel
theorem dX5_useEnergy_35 : decode cX5_useEnergy 35 = .ok (.imul, 1) := by decide +kernel
theorem dX5_useEnergy_36 : decode cX5_useEnergy 36 = .ok (.iadd, 1) := by decide +kernel
theorem dX5_useEnergy_37 : decode cX5_useEnergy 37 = .ok (.putfield 173, 3) := by decide +kernel
theorem dX5_useEnergy_40 : decode cX5_useEnergy 40 = .ok (.iinc 1 1, 3) := by decide +kernel
theorem dX5_useEnergy_43 : decode cX5_useEnergy 43 = .ok (.goto (-41), 3) := by decide +kernel
theorem dX5_useEnergy_46 : decode cX5_useEnergy 46 = .ok (.aload_n 0, 1) := by decide +kernel
theorem dX5_useEnergy_47 : decode cX5_useEnergy 47 = .ok (.dup, 1) := by decide +kernel
theorem dX5_useEnergy_48 : decode cX5_useEnergy 48 = .ok (.getfield 173, 3) := by decide +kernel
theorem dX5_useEnergy_51 : decode cX5_useEnergy 51 = .ok (.aload_n 0, 1) := by decide +kernel
theorem dX5_useEnergy_52 : decode cX5_useEnergy 52 = .ok (.invokevirtual 176, 3) := by decide +kernel
theorem dX5_useEnergy_55 : decode cX5_useEnergy 55 = .ok (.invokestatic 179, 3) := by decide +kernel
theorem dX5_useEnergy_58 : decode cX5_useEnergy 58 = .ok (.iadd, 1) := by decide +kernel
theorem dX5_useEnergy_59 : decode cX5_useEnergy 59 = .ok (.putfield 173, 3) := by decide +kernel
theorem dX5_useEnergy_62 : decode cX5_useEnergy 62 = .ok (.return_, 1) := by decide +kernel
theorem dX5_tripPumpsRunningDry_0 : decode cX5_tripPumpsRunningDry 0 = .ok (.aload_n 0, 1) := by decide +kernel
theorem dX5_tripPumpsRunningDry_1 : decode cX5_tripPumpsRunningDry 1 = .ok (.getfield 31, 3) := by decide +kernel
theorem dX5_tripPumpsRunningDry_4 : decode cX5_tripPumpsRunningDry 4 = .ok (.sipush 300, 3) := by decide +kernel
theorem dX5_tripPumpsRunningDry_7 : decode cX5_tripPumpsRunningDry 7 = .ok (.if_icmp .lt 4, 3) := by decide +kernel
theorem dX5_tripPumpsRunningDry_10 : decode cX5_tripPumpsRunningDry 10 = .ok (.return_, 1) := by decide +kernel
theorem dX5_tripPumpsRunningDry_11 : decode cX5_tripPumpsRunningDry 11 = .ok (.iconst 0, 1) := by decide +kernel
theorem dX5_tripPumpsRunningDry_12 : decode cX5_tripPumpsRunningDry 12 = .ok (.istore_n 1, 1) := by decide +kernel
theorem dX5_tripPumpsRunningDry_13 : decode cX5_tripPumpsRunningDry 13 = .ok (.iload_n 1, 1) := by decide +kernel
theorem dX5_tripPumpsRunningDry_14 : decode cX5_tripPumpsRunningDry 14 = .ok (.aload_n 0, 1) := by decide +kernel
theorem dX5_tripPumpsRunningDry_15 : decode cX5_tripPumpsRunningDry 15 = .ok (.getfield 12, 3) := by decide +kernel
theorem dX5_tripPumpsRunningDry_18 : decode cX5_tripPumpsRunningDry 18 = .ok (.invokevirtual 35, 3) := by decide +kernel
theorem dX5_tripPumpsRunningDry_21 : decode cX5_tripPumpsRunningDry 21 = .ok (.if_icmp .ge 40, 3) := by decide +kernel
theorem dX5_tripPumpsRunningDry_24 : decode cX5_tripPumpsRunningDry 24 = .ok (.aload_n 0, 1) := by decide +kernel
theorem dX5_tripPumpsRunningDry_25 : decode cX5_tripPumpsRunningDry 25 = .ok (.getfield 12, 3) := by decide +kernel
theorem dX5_tripPumpsRunningDry_28 : decode cX5_tripPumpsRunningDry 28 = .ok (.iload_n 1, 1) := by decide +kernel
theorem dX5_tripPumpsRunningDry_29 : decode cX5_tripPumpsRunningDry 29 = .ok (.invokevirtual 41, 3) := by decide +kernel
theorem dX5_tripPumpsRunningDry_32 : decode cX5_tripPumpsRunningDry 32 = .ok (.checkcast 45, 3) := by decide +kernel
theorem dX5_tripPumpsRunningDry_35 : decode cX5_tripPumpsRunningDry 35 = .ok (.getfield 170, 3) := by decide +kernel
theorem dX5_tripPumpsRunningDry_38 : decode cX5_tripPumpsRunningDry 38 = .ok (.ifCond .le 17, 3) := by decide +kernel
theorem dX5_tripPumpsRunningDry_41 : decode cX5_tripPumpsRunningDry 41 = .ok (.aload_n 0, 1) := by decide +kernel
theorem dX5_tripPumpsRunningDry_42 : decode cX5_tripPumpsRunningDry 42 = .ok (.getfield 12, 3) := by decide +kernel
theorem dX5_tripPumpsRunningDry_45 : decode cX5_tripPumpsRunningDry 45 = .ok (.iload_n 1, 1) := by decide +kernel
theorem dX5_tripPumpsRunningDry_46 : decode cX5_tripPumpsRunningDry 46 = .ok (.invokevirtual 41, 3) := by decide +kernel
theorem dX5_tripPumpsRunningDry_49 : decode cX5_tripPumpsRunningDry 49 = .ok (.checkcast 45, 3) := by decide +kernel
theorem dX5_tripPumpsRunningDry_52 : decode cX5_tripPumpsRunningDry 52 = .ok (.invokevirtual 184, 3) := by decide +kernel
theorem dX5_tripPumpsRunningDry_55 : decode cX5_tripPumpsRunningDry 55 = .ok (.iinc 1 1, 3) := by decide +kernel
theorem dX5_tripPumpsRunningDry_58 : decode cX5_tripPumpsRunningDry 58 = .ok (.goto (-45), 3) := by decide +kernel
theorem dX5_tripPumpsRunningDry_61 : decode cX5_tripPumpsRunningDry 61 = .ok (.return_, 1) := by decide +kernel
theorem dX5_shortLamps_0 : decode cX5_shortLamps 0 = .ok (.iconst 0, 1) := by decide +kernel
theorem dX5_shortLamps_1 : decode cX5_shortLamps 1 = .ok (.istore_n 1, 1) := by decide +kernel
theorem dX5_shortLamps_2 : decode cX5_shortLamps 2 = .ok (.iconst 0, 1) := by decide +kernel
theorem dX5_shortLamps_3 : decode cX5_shortLamps 3 = .ok (.istore_n 2, 1) := by decide +kernel
theorem dX5_shortLamps_4 : decode cX5_shortLamps 4 = .ok (.iload_n 2, 1) := by decide +kernel
theorem dX5_shortLamps_5 : decode cX5_shortLamps 5 = .ok (.aload_n 0, 1) := by decide +kernel
theorem dX5_shortLamps_6 : decode cX5_shortLamps 6 = .ok (.getfield 18, 3) := by decide +kernel
theorem dX5_shortLamps_9 : decode cX5_shortLamps 9 = .ok (.invokevirtual 35, 3) := by decide +kernel
theorem dX5_shortLamps_12 : decode cX5_shortLamps 12 = .ok (.if_icmp .ge 29, 3) := by decide +kernel
theorem dX5_shortLamps_15 : decode cX5_shortLamps 15 = .ok (.aload_n 0, 1) := by decide +kernel
theorem dX5_shortLamps_16 : decode cX5_shortLamps 16 = .ok (.getfield 18, 3) := by decide +kernel
theorem dX5_shortLamps_19 : decode cX5_shortLamps 19 = .ok (.iload_n 2, 1) := by decide +kernel
theorem dX5_shortLamps_20 : decode cX5_shortLamps 20 = .ok (.invokevirtual 41, 3) := by decide +kernel
theorem dX5_shortLamps_23 : decode cX5_shortLamps 23 = .ok (.checkcast 39, 3) := by decide +kernel
theorem dX5_shortLamps_26 : decode cX5_shortLamps 26 = .ok (.invokevirtual 187, 3) := by decide +kernel
theorem dX5_shortLamps_29 : decode cX5_shortLamps 29 = .ok (.ifCond .eq 6, 3) := by decide +kernel
theorem dX5_shortLamps_32 : decode cX5_shortLamps 32 = .ok (.iinc 1 1, 3) := by decide +kernel
theorem dX5_shortLamps_35 : decode cX5_shortLamps 35 = .ok (.iinc 2 1, 3) := by decide +kernel
theorem dX5_shortLamps_38 : decode cX5_shortLamps 38 = .ok (.goto (-34), 3) := by decide +kernel
theorem dX5_shortLamps_41 : decode cX5_shortLamps 41 = .ok (.iload_n 1, 1) := by decide +kernel
theorem dX5_shortLamps_42 : decode cX5_shortLamps 42 = .ok (.ifCond .ne 4, 3) := by decide +kernel
theorem dX5_shortLamps_45 : decode cX5_shortLamps 45 = .ok (.return_, 1) := by decide +kernel
theorem dX5_shortLamps_46 : decode cX5_shortLamps 46 = .ok (.aload_n 0, 1) := by decide +kernel
theorem dX5_shortLamps_47 : decode cX5_shortLamps 47 = .ok (.dup, 1) := by decide +kernel
theorem dX5_shortLamps_48 : decode cX5_shortLamps 48 = .ok (.getfield 191, 3) := by decide +kernel
theorem dX5_shortLamps_51 : decode cX5_shortLamps 51 = .ok (.iload_n 1, 1) := by decide +kernel
theorem dX5_shortLamps_52 : decode cX5_shortLamps 52 = .ok (.iadd, 1) := by decide +kernel
theorem dX5_shortLamps_53 : decode cX5_shortLamps 53 = .ok (.putfield 191, 3) := by decide +kernel
theorem dX5_shortLamps_56 : decode cX5_shortLamps 56 = .ok (.aload_n 0, 1) := by decide +kernel
theorem dX5_shortLamps_57 : decode cX5_shortLamps 57 = .ok (.getfield 65, 3) := by decide +kernel
theorem dX5_shortLamps_60 : decode cX5_shortLamps 60 = .ok (.ifCond .eq 13, 3) := by decide +kernel
theorem dX5_shortLamps_63 : decode cX5_shortLamps 63 = .ok (.aload_n 0, 1) := by decide +kernel
theorem dX5_shortLamps_64 : decode cX5_shortLamps 64 = .ok (.dup, 1) := by decide +kernel
theorem dX5_shortLamps_65 : decode cX5_shortLamps 65 = .ok (.getfield 194, 3) := by decide +kernel
theorem dX5_shortLamps_68 : decode cX5_shortLamps 68 = .ok (.iconst 1, 1) := by decide +kernel
theorem dX5_shortLamps_69 : decode cX5_shortLamps 69 = .ok (.iadd, 1) := by decide +kernel
theorem dX5_shortLamps_70 : decode cX5_shortLamps 70 = .ok (.putfield 194, 3) := by decide +kernel
theorem dX5_shortLamps_73 : decode cX5_shortLamps 73 = .ok (.aload_n 0, 1) := by decide +kernel
theorem dX5_shortLamps_74 : decode cX5_shortLamps 74 = .ok (.invokevirtual 197, 3) := by decide +kernel
theorem dX5_shortLamps_77 : decode cX5_shortLamps 77 = .ok (.return_, 1) := by decide +kernel
theorem dX5_lampsOff_0 : decode cX5_lampsOff 0 = .ok (.iconst 0, 1) := by decide +kernel
theorem dX5_lampsOff_1 : decode cX5_lampsOff 1 = .ok (.istore_n 1, 1) := by decide +kernel
theorem dX5_lampsOff_2 : decode cX5_lampsOff 2 = .ok (.iload_n 1, 1) := by decide +kernel
theorem dX5_lampsOff_3 : decode cX5_lampsOff 3 = .ok (.aload_n 0, 1) := by decide +kernel
theorem dX5_lampsOff_4 : decode cX5_lampsOff 4 = .ok (.getfield 18, 3) := by decide +kernel
theorem dX5_lampsOff_7 : decode cX5_lampsOff 7 = .ok (.invokevirtual 35, 3) := by decide +kernel
theorem dX5_lampsOff_10 : decode cX5_lampsOff 10 = .ok (.if_icmp .ge 24, 3) := by decide +kernel
theorem dX5_lampsOff_13 : decode cX5_lampsOff 13 = .ok (.aload_n 0, 1) := by decide +kernel
theorem dX5_lampsOff_14 : decode cX5_lampsOff 14 = .ok (.getfield 18, 3) := by decide +kernel
theorem dX5_lampsOff_17 : decode cX5_lampsOff 17 = .ok (.iload_n 1, 1) := by decide +kernel
theorem dX5_lampsOff_18 : decode cX5_lampsOff 18 = .ok (.invokevirtual 41, 3) := by decide +kernel
theorem dX5_lampsOff_21 : decode cX5_lampsOff 21 = .ok (.checkcast 39, 3) := by decide +kernel
theorem dX5_lampsOff_24 : decode cX5_lampsOff 24 = .ok (.iconst 0, 1) := by decide +kernel
theorem dX5_lampsOff_25 : decode cX5_lampsOff 25 = .ok (.putfield 200, 3) := by decide +kernel
theorem dX5_lampsOff_28 : decode cX5_lampsOff 28 = .ok (.iinc 1 1, 3) := by decide +kernel
theorem dX5_lampsOff_31 : decode cX5_lampsOff 31 = .ok (.goto (-29), 3) := by decide +kernel
theorem dX5_lampsOff_34 : decode cX5_lampsOff 34 = .ok (.return_, 1) := by decide +kernel
theorem dX5_shutAll_0 : decode cX5_shutAll 0 = .ok (.iconst 0, 1) := by decide +kernel
theorem dX5_shutAll_1 : decode cX5_shutAll 1 = .ok (.istore_n 1, 1) := by decide +kernel
theorem dX5_shutAll_2 : decode cX5_shutAll 2 = .ok (.iload_n 1, 1) := by decide +kernel
theorem dX5_shutAll_3 : decode cX5_shutAll 3 = .ok (.aload_n 0, 1) := by decide +kernel
theorem dX5_shutAll_4 : decode cX5_shutAll 4 = .ok (.getfield 12, 3) := by decide +kernel
theorem dX5_shutAll_7 : decode cX5_shutAll 7 = .ok (.invokevirtual 35, 3) := by decide +kernel
theorem dX5_shutAll_10 : decode cX5_shutAll 10 = .ok (.if_icmp .ge 24, 3) := by decide +kernel
theorem dX5_shutAll_13 : decode cX5_shutAll 13 = .ok (.aload_n 0, 1) := by decide +kernel
theorem dX5_shutAll_14 : decode cX5_shutAll 14 = .ok (.getfield 12, 3) := by decide +kernel
theorem dX5_shutAll_17 : decode cX5_shutAll 17 = .ok (.iload_n 1, 1) := by decide +kernel
theorem dX5_shutAll_18 : decode cX5_shutAll 18 = .ok (.invokevirtual 41, 3) := by decide +kernel
theorem dX5_shutAll_21 : decode cX5_shutAll 21 = .ok (.checkcast 45, 3) := by decide +kernel
theorem dX5_shutAll_24 : decode cX5_shutAll 24 = .ok (.iconst 0, 1) := by decide +kernel
theorem dX5_shutAll_25 : decode cX5_shutAll 25 = .ok (.invokevirtual 54, 3) := by decide +kernel
theorem dX5_shutAll_28 : decode cX5_shutAll 28 = .ok (.iinc 1 1, 3) := by decide +kernel
theorem dX5_shutAll_31 : decode cX5_shutAll 31 = .ok (.goto (-29), 3) := by decide +kernel
theorem dX5_shutAll_34 : decode cX5_shutAll 34 = .ok (.iconst 0, 1) := by decide +kernel
theorem dX5_shutAll_35 : decode cX5_shutAll 35 = .ok (.istore_n 1, 1) := by decide +kernel
theorem dX5_shutAll_36 : decode cX5_shutAll 36 = .ok (.iload_n 1, 1) := by decide +kernel
theorem dX5_shutAll_37 : decode cX5_shutAll 37 = .ok (.aload_n 0, 1) := by decide +kernel
theorem dX5_shutAll_38 : decode cX5_shutAll 38 = .ok (.getfield 18, 3) := by decide +kernel
theorem dX5_shutAll_41 : decode cX5_shutAll 41 = .ok (.invokevirtual 35, 3) := by decide +kernel
theorem dX5_shutAll_44 : decode cX5_shutAll 44 = .ok (.if_icmp .ge 24, 3) := by decide +kernel
theorem dX5_shutAll_47 : decode cX5_shutAll 47 = .ok (.aload_n 0, 1) := by decide +kernel
theorem dX5_shutAll_48 : decode cX5_shutAll 48 = .ok (.getfield 18, 3) := by decide +kernel
theorem dX5_shutAll_51 : decode cX5_shutAll 51 = .ok (.iload_n 1, 1) := by decide +kernel
theorem dX5_shutAll_52 : decode cX5_shutAll 52 = .ok (.invokevirtual 41, 3) := by decide +kernel
theorem dX5_shutAll_55 : decode cX5_shutAll 55 = .ok (.checkcast 39, 3) := by decide +kernel
theorem dX5_shutAll_58 : decode cX5_shutAll 58 = .ok (.iconst 0, 1) := by decide +kernel
theorem dX5_shutAll_59 : decode cX5_shutAll 59 = .ok (.putfield 203, 3) := by decide +kernel
theorem dX5_shutAll_62 : decode cX5_shutAll 62 = .ok (.iinc 1 1, 3) := by decide +kernel
theorem dX5_shutAll_65 : decode cX5_shutAll 65 = .ok (.goto (-29), 3) := by decide +kernel
theorem dX5_shutAll_68 : decode cX5_shutAll 68 = .ok (.aload_n 0, 1) := by decide +kernel
theorem dX5_shutAll_69 : decode cX5_shutAll 69 = .ok (.invokevirtual 197, 3) := by decide +kernel
theorem dX5_shutAll_72 : decode cX5_shutAll 72 = .ok (.return_, 1) := by decide +kernel
theorem dX5_pour_0 : decode cX5_pour 0 = .ok (.aload_n 0, 1) := by decide +kernel
theorem dX5_pour_1 : decode cX5_pour 1 = .ok (.dup, 1) := by decide +kernel
theorem dX5_pour_2 : decode cX5_pour 2 = .ok (.getfield 31, 3) := by decide +kernel
theorem dX5_pour_5 : decode cX5_pour 5 = .ok (.iload_n 1, 1) := by decide +kernel
theorem dX5_pour_6 : decode cX5_pour 6 = .ok (.iadd, 1) := by decide +kernel
theorem dX5_pour_7 : decode cX5_pour 7 = .ok (.putfield 31, 3) := by decide +kernel
theorem dX5_pour_10 : decode cX5_pour 10 = .ok (.aload_n 0, 1) := by decide +kernel
theorem dX5_pour_11 : decode cX5_pour 11 = .ok (.getfield 31, 3) := by decide +kernel
theorem dX5_pour_14 : decode cX5_pour 14 = .ok (.sipush 9000, 3) := by decide +kernel
theorem dX5_pour_17 : decode cX5_pour 17 = .ok (.if_icmp .le 27, 3) := by decide +kernel
theorem dX5_pour_20 : decode cX5_pour 20 = .ok (.aload_n 0, 1) := by decide +kernel
theorem dX5_pour_21 : decode cX5_pour 21 = .ok (.dup, 1) := by decide +kernel
theorem dX5_pour_22 : decode cX5_pour 22 = .ok (.getfield 206, 3) := by decide +kernel
theorem dX5_pour_25 : decode cX5_pour 25 = .ok (.aload_n 0, 1) := by decide +kernel
theorem dX5_pour_26 : decode cX5_pour 26 = .ok (.getfield 31, 3) := by decide +kernel
theorem dX5_pour_29 : decode cX5_pour 29 = .ok (.sipush 9000, 3) := by decide +kernel
theorem dX5_pour_32 : decode cX5_pour 32 = .ok (.isub, 1) := by decide +kernel
theorem dX5_pour_33 : decode cX5_pour 33 = .ok (.iadd, 1) := by decide +kernel
theorem dX5_pour_34 : decode cX5_pour 34 = .ok (.putfield 206, 3) := by decide +kernel
theorem dX5_pour_37 : decode cX5_pour 37 = .ok (.aload_n 0, 1) := by decide +kernel
theorem dX5_pour_38 : decode cX5_pour 38 = .ok (.sipush 9000, 3) := by decide +kernel
theorem dX5_pour_41 : decode cX5_pour 41 = .ok (.putfield 31, 3) := by decide +kernel
theorem dX5_pour_44 : decode cX5_pour 44 = .ok (.return_, 1) := by decide +kernel
theorem dX5_pressureOf_0 : decode cX5_pressureOf 0 = .ok (.iconst 0, 1) := by decide +kernel
theorem dX5_pressureOf_1 : decode cX5_pressureOf 1 = .ok (.istore_n 2, 1) := by decide +kernel
theorem dX5_pressureOf_2 : decode cX5_pressureOf 2 = .ok (.iconst 0, 1) := by decide +kernel
theorem dX5_pressureOf_3 : decode cX5_pressureOf 3 = .ok (.istore_n 3, 1) := by decide +kernel
theorem dX5_pressureOf_4 : decode cX5_pressureOf 4 = .ok (.iload_n 3, 1) := by decide +kernel
theorem dX5_pressureOf_5 : decode cX5_pressureOf 5 = .ok (.aload_n 0, 1) := by decide +kernel
theorem dX5_pressureOf_6 : decode cX5_pressureOf 6 = .ok (.getfield 18, 3) := by decide +kernel
theorem dX5_pressureOf_9 : decode cX5_pressureOf 9 = .ok (.invokevirtual 35, 3) := by decide +kernel
theorem dX5_pressureOf_12 : decode cX5_pressureOf 12 = .ok (.if_icmp .ge 39, 3) := by decide +kernel
theorem dX5_pressureOf_15 : decode cX5_pressureOf 15 = .ok (.aload_n 0, 1) := by decide +kernel
theorem dX5_pressureOf_16 : decode cX5_pressureOf 16 = .ok (.getfield 18, 3) := by decide +kernel
theorem dX5_pressureOf_19 : decode cX5_pressureOf 19 = .ok (.iload_n 3, 1) := by decide +kernel
theorem dX5_pressureOf_20 : decode cX5_pressureOf 20 = .ok (.invokevirtual 41, 3) := by decide +kernel
theorem dX5_pressureOf_23 : decode cX5_pressureOf 23 = .ok (.checkcast 39, 3) := by decide +kernel
theorem dX5_pressureOf_26 : decode cX5_pressureOf 26 = .ok (.astore 4, 2) := by decide +kernel
theorem dX5_pressureOf_28 : decode cX5_pressureOf 28 = .ok (.aload 4, 2) := by decide +kernel
theorem dX5_pressureOf_30 : decode cX5_pressureOf 30 = .ok (.getfield 209, 3) := by decide +kernel
theorem dX5_pressureOf_33 : decode cX5_pressureOf 33 = .ok (.aload_n 1, 1) := by decide +kernel
theorem dX5_pressureOf_34 : decode cX5_pressureOf 34 = .ok (.if_acmp .ne 11, 3) := by decide +kernel
theorem dX5_pressureOf_37 : decode cX5_pressureOf 37 = .ok (.iload_n 2, 1) := by decide +kernel
theorem dX5_pressureOf_38 : decode cX5_pressureOf 38 = .ok (.aload 4, 2) := by decide +kernel
theorem dX5_pressureOf_40 : decode cX5_pressureOf 40 = .ok (.invokevirtual 150, 3) := by decide +kernel
theorem dX5_pressureOf_43 : decode cX5_pressureOf 43 = .ok (.iadd, 1) := by decide +kernel
theorem dX5_pressureOf_44 : decode cX5_pressureOf 44 = .ok (.istore_n 2, 1) := by decide +kernel
theorem dX5_pressureOf_45 : decode cX5_pressureOf 45 = .ok (.iinc 3 1, 3) := by decide +kernel
theorem dX5_pressureOf_48 : decode cX5_pressureOf 48 = .ok (.goto (-44), 3) := by decide +kernel
theorem dX5_pressureOf_51 : decode cX5_pressureOf 51 = .ok (.aload_n 1, 1) := by decide +kernel
theorem dX5_pressureOf_52 : decode cX5_pressureOf 52 = .ok (.getfield 170, 3) := by decide +kernel
theorem dX5_pressureOf_55 : decode cX5_pressureOf 55 = .ok (.aload_n 1, 1) := by decide +kernel
theorem dX5_pressureOf_56 : decode cX5_pressureOf 56 = .ok (.getfield 213, 3) := by decide +kernel
theorem dX5_pressureOf_59 : decode cX5_pressureOf 59 = .ok (.iload_n 2, 1) := by decide +kernel
theorem dX5_pressureOf_60 : decode cX5_pressureOf 60 = .ok (.invokestatic 216, 3) := by decide +kernel
theorem dX5_pressureOf_63 : decode cX5_pressureOf 63 = .ok (.ireturn, 1) := by decide +kernel
theorem dX5_flowsAsSet_0 : decode cX5_flowsAsSet 0 = .ok (.iconst 0, 1) := by decide +kernel
theorem dX5_flowsAsSet_1 : decode cX5_flowsAsSet 1 = .ok (.istore_n 2, 1) := by decide +kernel
theorem dX5_flowsAsSet_2 : decode cX5_flowsAsSet 2 = .ok (.iconst 0, 1) := by decide +kernel
theorem dX5_flowsAsSet_3 : decode cX5_flowsAsSet 3 = .ok (.istore_n 3, 1) := by decide +kernel
theorem dX5_flowsAsSet_4 : decode cX5_flowsAsSet 4 = .ok (.iload_n 3, 1) := by decide +kernel
theorem dX5_flowsAsSet_5 : decode cX5_flowsAsSet 5 = .ok (.aload_n 0, 1) := by decide +kernel
theorem dX5_flowsAsSet_6 : decode cX5_flowsAsSet 6 = .ok (.getfield 18, 3) := by decide +kernel
theorem dX5_flowsAsSet_9 : decode cX5_flowsAsSet 9 = .ok (.invokevirtual 35, 3) := by decide +kernel
theorem dX5_flowsAsSet_12 : decode cX5_flowsAsSet 12 = .ok (.if_icmp .ge 45, 3) := by decide +kernel
theorem dX5_flowsAsSet_15 : decode cX5_flowsAsSet 15 = .ok (.aload_n 0, 1) := by decide +kernel
theorem dX5_flowsAsSet_16 : decode cX5_flowsAsSet 16 = .ok (.getfield 18, 3) := by decide +kernel
theorem dX5_flowsAsSet_19 : decode cX5_flowsAsSet 19 = .ok (.iload_n 3, 1) := by decide +kernel
theorem dX5_flowsAsSet_20 : decode cX5_flowsAsSet 20 = .ok (.invokevirtual 41, 3) := by decide +kernel
theorem dX5_flowsAsSet_23 : decode cX5_flowsAsSet 23 = .ok (.checkcast 39, 3) := by decide +kernel
theorem dX5_flowsAsSet_26 : decode cX5_flowsAsSet 26 = .ok (.astore 4, 2) := by decide +kernel
theorem dX5_flowsAsSet_28 : decode cX5_flowsAsSet 28 = .ok (.aload 4, 2) := by decide +kernel
theorem dX5_flowsAsSet_30 : decode cX5_flowsAsSet 30 = .ok (.getfield 209, 3) := by decide +kernel
theorem dX5_flowsAsSet_33 : decode cX5_flowsAsSet 33 = .ok (.aload_n 1, 1) := by decide +kernel
theorem dX5_flowsAsSet_34 : decode cX5_flowsAsSet 34 = .ok (.if_acmp .ne 17, 3) := by decide +kernel
theorem dX5_flowsAsSet_37 : decode cX5_flowsAsSet 37 = .ok (.iload_n 2, 1) := by decide +kernel
theorem dX5_flowsAsSet_38 : decode cX5_flowsAsSet 38 = .ok (.aload 4, 2) := by decide +kernel
theorem dX5_flowsAsSet_40 : decode cX5_flowsAsSet 40 = .ok (.getfield 220, 3) := by decide +kernel
theorem dX5_flowsAsSet_43 : decode cX5_flowsAsSet 43 = .ok (.aload 4, 2) := by decide +kernel
theorem dX5_flowsAsSet_45 : decode cX5_flowsAsSet 45 = .ok (.getfield 203, 3) := by decide +kernel
theorem dX5_flowsAsSet_48 : decode cX5_flowsAsSet 48 = .ok (.imul, 1) := by decide +kernel
theorem dX5_flowsAsSet_49 : decode cX5_flowsAsSet 49 = .ok (.iadd, 1) := by decide +kernel
theorem dX5_flowsAsSet_50 : decode cX5_flowsAsSet 50 = .ok (.istore_n 2, 1) := by decide +kernel
theorem dX5_flowsAsSet_51 : decode cX5_flowsAsSet 51 = .ok (.iinc 3 1, 3) := by decide +kernel
theorem dX5_flowsAsSet_54 : decode cX5_flowsAsSet 54 = .ok (.goto (-50), 3) := by decide +kernel
theorem dX5_flowsAsSet_57 : decode cX5_flowsAsSet 57 = .ok (.iload_n 2, 1) := by decide +kernel
theorem dX5_flowsAsSet_58 : decode cX5_flowsAsSet 58 = .ok (.ireturn, 1) := by decide +kernel
theorem dX5_jetsOf_0 : decode cX5_jetsOf 0 = .ok (.iconst 0, 1) := by decide +kernel
theorem dX5_jetsOf_1 : decode cX5_jetsOf 1 = .ok (.istore_n 2, 1) := by decide +kernel
theorem dX5_jetsOf_2 : decode cX5_jetsOf 2 = .ok (.iconst 0, 1) := by decide +kernel
theorem dX5_jetsOf_3 : decode cX5_jetsOf 3 = .ok (.istore_n 3, 1) := by decide +kernel
theorem dX5_jetsOf_4 : decode cX5_jetsOf 4 = .ok (.iload_n 3, 1) := by decide +kernel
theorem dX5_jetsOf_5 : decode cX5_jetsOf 5 = .ok (.aload_n 0, 1) := by decide +kernel
theorem dX5_jetsOf_6 : decode cX5_jetsOf 6 = .ok (.getfield 18, 3) := by decide +kernel
theorem dX5_jetsOf_9 : decode cX5_jetsOf 9 = .ok (.invokevirtual 35, 3) := by decide +kernel
theorem dX5_jetsOf_12 : decode cX5_jetsOf 12 = .ok (.if_icmp .ge 33, 3) := by decide +kernel
theorem dX5_jetsOf_15 : decode cX5_jetsOf 15 = .ok (.aload_n 0, 1) := by decide +kernel
theorem dX5_jetsOf_16 : decode cX5_jetsOf 16 = .ok (.getfield 18, 3) := by decide +kernel
theorem dX5_jetsOf_19 : decode cX5_jetsOf 19 = .ok (.iload_n 3, 1) := by decide +kernel
theorem dX5_jetsOf_20 : decode cX5_jetsOf 20 = .ok (.invokevirtual 41, 3) := by decide +kernel
theorem dX5_jetsOf_23 : decode cX5_jetsOf 23 = .ok (.checkcast 39, 3) := by decide +kernel
theorem dX5_jetsOf_26 : decode cX5_jetsOf 26 = .ok (.getfield 209, 3) := by decide +kernel
theorem dX5_jetsOf_29 : decode cX5_jetsOf 29 = .ok (.aload_n 1, 1) := by decide +kernel
theorem dX5_jetsOf_30 : decode cX5_jetsOf 30 = .ok (.if_acmp .ne 9, 3) := by decide +kernel
theorem dX5_jetsOf_33 : decode cX5_jetsOf 33 = .ok (.iload_n 2, 1) := by decide +kernel
theorem dX5_jetsOf_34 : decode cX5_jetsOf 34 = .ok (.iconst 1, 1) := by decide +kernel
theorem dX5_jetsOf_35 : decode cX5_jetsOf 35 = .ok (.iload_n 3, 1) := by decide +kernel
theorem dX5_jetsOf_36 : decode cX5_jetsOf 36 = .ok (.ishl, 1) := by decide +kernel
theorem dX5_jetsOf_37 : decode cX5_jetsOf 37 = .ok (.ior, 1) := by decide +kernel
theorem dX5_jetsOf_38 : decode cX5_jetsOf 38 = .ok (.istore_n 2, 1) := by decide +kernel
theorem dX5_jetsOf_39 : decode cX5_jetsOf 39 = .ok (.iinc 3 1, 3) := by decide +kernel
theorem dX5_jetsOf_42 : decode cX5_jetsOf 42 = .ok (.goto (-38), 3) := by decide +kernel
theorem dX5_jetsOf_45 : decode cX5_jetsOf 45 = .ok (.iload_n 2, 1) := by decide +kernel
theorem dX5_jetsOf_46 : decode cX5_jetsOf 46 = .ok (.ireturn, 1) := by decide +kernel
theorem dX5_lampsOn_0 : decode cX5_lampsOn 0 = .ok (.iconst 0, 1) := by decide +kernel
theorem dX5_lampsOn_1 : decode cX5_lampsOn 1 = .ok (.istore_n 1, 1) := by decide +kernel
theorem dX5_lampsOn_2 : decode cX5_lampsOn 2 = .ok (.iconst 0, 1) := by decide +kernel
theorem dX5_lampsOn_3 : decode cX5_lampsOn 3 = .ok (.istore_n 2, 1) := by decide +kernel
theorem dX5_lampsOn_4 : decode cX5_lampsOn 4 = .ok (.iload_n 2, 1) := by decide +kernel
theorem dX5_lampsOn_5 : decode cX5_lampsOn 5 = .ok (.aload_n 0, 1) := by decide +kernel
theorem dX5_lampsOn_6 : decode cX5_lampsOn 6 = .ok (.getfield 18, 3) := by decide +kernel
theorem dX5_lampsOn_9 : decode cX5_lampsOn 9 = .ok (.invokevirtual 35, 3) := by decide +kernel
theorem dX5_lampsOn_12 : decode cX5_lampsOn 12 = .ok (.if_icmp .ge 32, 3) := by decide +kernel
theorem dX5_lampsOn_15 : decode cX5_lampsOn 15 = .ok (.aload_n 0, 1) := by decide +kernel
theorem dX5_lampsOn_16 : decode cX5_lampsOn 16 = .ok (.getfield 18, 3) := by decide +kernel
theorem dX5_lampsOn_19 : decode cX5_lampsOn 19 = .ok (.iload_n 2, 1) := by decide +kernel
theorem dX5_lampsOn_20 : decode cX5_lampsOn 20 = .ok (.invokevirtual 41, 3) := by decide +kernel
theorem dX5_lampsOn_23 : decode cX5_lampsOn 23 = .ok (.checkcast 39, 3) := by decide +kernel
theorem dX5_lampsOn_26 : decode cX5_lampsOn 26 = .ok (.getfield 200, 3) := by decide +kernel
theorem dX5_lampsOn_29 : decode cX5_lampsOn 29 = .ok (.ifCond .eq 9, 3) := by decide +kernel
theorem dX5_lampsOn_32 : decode cX5_lampsOn 32 = .ok (.iload_n 1, 1) := by decide +kernel
theorem dX5_lampsOn_33 : decode cX5_lampsOn 33 = .ok (.iconst 1, 1) := by decide +kernel
theorem dX5_lampsOn_34 : decode cX5_lampsOn 34 = .ok (.iload_n 2, 1) := by decide +kernel
theorem dX5_lampsOn_35 : decode cX5_lampsOn 35 = .ok (.ishl, 1) := by decide +kernel
theorem dX5_lampsOn_36 : decode cX5_lampsOn 36 = .ok (.ior, 1) := by decide +kernel
theorem dX5_lampsOn_37 : decode cX5_lampsOn 37 = .ok (.istore_n 1, 1) := by decide +kernel
theorem dX5_lampsOn_38 : decode cX5_lampsOn 38 = .ok (.iinc 2 1, 3) := by decide +kernel
theorem dX5_lampsOn_41 : decode cX5_lampsOn 41 = .ok (.goto (-37), 3) := by decide +kernel
theorem dX5_lampsOn_44 : decode cX5_lampsOn 44 = .ok (.iload_n 1, 1) := by decide +kernel
theorem dX5_lampsOn_45 : decode cX5_lampsOn 45 = .ok (.ireturn, 1) := by decide +kernel
theorem dX5_heightOf_0 : decode cX5_heightOf 0 = .ok (.aload_n 0, 1) := by decide +kernel
theorem dX5_heightOf_1 : decode cX5_heightOf 1 = .ok (.aload_n 1, 1) := by decide +kernel
theorem dX5_heightOf_2 : decode cX5_heightOf 2 = .ok (.getfield 209, 3) := by decide +kernel
theorem dX5_heightOf_5 : decode cX5_heightOf 5 = .ok (.invokevirtual 223, 3) := by decide +kernel
theorem dX5_heightOf_8 : decode cX5_heightOf 8 = .ok (.aload_n 1, 1) := by decide +kernel
theorem dX5_heightOf_9 : decode cX5_heightOf 9 = .ok (.getfield 227, 3) := by decide +kernel
theorem dX5_heightOf_12 : decode cX5_heightOf 12 = .ok (.invokestatic 230, 3) := by decide +kernel
theorem dX5_heightOf_15 : decode cX5_heightOf 15 = .ok (.ireturn, 1) := by decide +kernel
theorem dX5_greatestHeight_0 : decode cX5_greatestHeight 0 = .ok (.iconst 0, 1) := by decide +kernel
theorem dX5_greatestHeight_1 : decode cX5_greatestHeight 1 = .ok (.istore_n 1, 1) := by decide +kernel
theorem dX5_greatestHeight_2 : decode cX5_greatestHeight 2 = .ok (.iconst 0, 1) := by decide +kernel
theorem dX5_greatestHeight_3 : decode cX5_greatestHeight 3 = .ok (.istore_n 2, 1) := by decide +kernel
theorem dX5_greatestHeight_4 : decode cX5_greatestHeight 4 = .ok (.iload_n 2, 1) := by decide +kernel
theorem dX5_greatestHeight_5 : decode cX5_greatestHeight 5 = .ok (.aload_n 0, 1) := by decide +kernel
theorem dX5_greatestHeight_6 : decode cX5_greatestHeight 6 = .ok (.getfield 18, 3) := by decide +kernel
theorem dX5_greatestHeight_9 : decode cX5_greatestHeight 9 = .ok (.invokevirtual 35, 3) := by decide +kernel
theorem dX5_greatestHeight_12 : decode cX5_greatestHeight 12 = .ok (.if_icmp .ge 29, 3) := by decide +kernel
theorem dX5_greatestHeight_15 : decode cX5_greatestHeight 15 = .ok (.iload_n 1, 1) := by decide +kernel
theorem dX5_greatestHeight_16 : decode cX5_greatestHeight 16 = .ok (.aload_n 0, 1) := by decide +kernel
theorem dX5_greatestHeight_17 : decode cX5_greatestHeight 17 = .ok (.aload_n 0, 1) := by decide +kernel
theorem dX5_greatestHeight_18 : decode cX5_greatestHeight 18 = .ok (.getfield 18, 3) := by decide +kernel
theorem dX5_greatestHeight_21 : decode cX5_greatestHeight 21 = .ok (.iload_n 2, 1) := by decide +kernel
theorem dX5_greatestHeight_22 : decode cX5_greatestHeight 22 = .ok (.invokevirtual 41, 3) := by decide +kernel
theorem dX5_greatestHeight_25 : decode cX5_greatestHeight 25 = .ok (.checkcast 39, 3) := by decide +kernel
theorem dX5_greatestHeight_28 : decode cX5_greatestHeight 28 = .ok (.invokevirtual 58, 3) := by decide +kernel
theorem dX5_greatestHeight_31 : decode cX5_greatestHeight 31 = .ok (.invokestatic 233, 3) := by decide +kernel
theorem dX5_greatestHeight_34 : decode cX5_greatestHeight 34 = .ok (.istore_n 1, 1) := by decide +kernel
theorem dX5_greatestHeight_35 : decode cX5_greatestHeight 35 = .ok (.iinc 2 1, 3) := by decide +kernel
theorem dX5_greatestHeight_38 : decode cX5_greatestHeight 38 = .ok (.goto (-34), 3) := by decide +kernel
theorem dX5_greatestHeight_41 : decode cX5_greatestHeight 41 = .ok (.iload_n 1, 1) := by decide +kernel
theorem dX5_greatestHeight_42 : decode cX5_greatestHeight 42 = .ok (.ireturn, 1) := by decide +kernel
theorem dX5_sumOfHeights_0 : decode cX5_sumOfHeights 0 = .ok (.iconst 0, 1) := by decide +kernel
theorem dX5_sumOfHeights_1 : decode cX5_sumOfHeights 1 = .ok (.istore_n 1, 1) := by decide +kernel
theorem dX5_sumOfHeights_2 : decode cX5_sumOfHeights 2 = .ok (.iconst 0, 1) := by decide +kernel
theorem dX5_sumOfHeights_3 : decode cX5_sumOfHeights 3 = .ok (.istore_n 2, 1) := by decide +kernel
theorem dX5_sumOfHeights_4 : decode cX5_sumOfHeights 4 = .ok (.iload_n 2, 1) := by decide +kernel
theorem dX5_sumOfHeights_5 : decode cX5_sumOfHeights 5 = .ok (.aload_n 0, 1) := by decide +kernel
theorem dX5_sumOfHeights_6 : decode cX5_sumOfHeights 6 = .ok (.getfield 18, 3) := by decide +kernel
theorem dX5_sumOfHeights_9 : decode cX5_sumOfHeights 9 = .ok (.invokevirtual 35, 3) := by decide +kernel
theorem dX5_sumOfHeights_12 : decode cX5_sumOfHeights 12 = .ok (.if_icmp .ge 27, 3) := by decide +kernel
theorem dX5_sumOfHeights_15 : decode cX5_sumOfHeights 15 = .ok (.iload_n 1, 1) := by decide +kernel
theorem dX5_sumOfHeights_16 : decode cX5_sumOfHeights 16 = .ok (.aload_n 0, 1) := by decide +kernel
theorem dX5_sumOfHeights_17 : decode cX5_sumOfHeights 17 = .ok (.aload_n 0, 1) := by decide +kernel
theorem dX5_sumOfHeights_18 : decode cX5_sumOfHeights 18 = .ok (.getfield 18, 3) := by decide +kernel
theorem dX5_sumOfHeights_21 : decode cX5_sumOfHeights 21 = .ok (.iload_n 2, 1) := by decide +kernel
theorem dX5_sumOfHeights_22 : decode cX5_sumOfHeights 22 = .ok (.invokevirtual 41, 3) := by decide +kernel
theorem dX5_sumOfHeights_25 : decode cX5_sumOfHeights 25 = .ok (.checkcast 39, 3) := by decide +kernel
theorem dX5_sumOfHeights_28 : decode cX5_sumOfHeights 28 = .ok (.invokevirtual 58, 3) := by decide +kernel
theorem dX5_sumOfHeights_31 : decode cX5_sumOfHeights 31 = .ok (.iadd, 1) := by decide +kernel
theorem dX5_sumOfHeights_32 : decode cX5_sumOfHeights 32 = .ok (.istore_n 1, 1) := by decide +kernel
theorem dX5_sumOfHeights_33 : decode cX5_sumOfHeights 33 = .ok (.iinc 2 1, 3) := by decide +kernel
theorem dX5_sumOfHeights_36 : decode cX5_sumOfHeights 36 = .ok (.goto (-32), 3) := by decide +kernel
theorem dX5_sumOfHeights_39 : decode cX5_sumOfHeights 39 = .ok (.iload_n 1, 1) := by decide +kernel
theorem dX5_sumOfHeights_40 : decode cX5_sumOfHeights 40 = .ok (.ireturn, 1) := by decide +kernel
theorem dX5_placeOfFall_0 : decode cX5_placeOfFall 0 = .ok (.aload_n 1, 1) := by decide +kernel
theorem dX5_placeOfFall_1 : decode cX5_placeOfFall 1 = .ok (.getfield 236, 3) := by decide +kernel
theorem dX5_placeOfFall_4 : decode cX5_placeOfFall 4 = .ok (.iload_n 2, 1) := by decide +kernel
theorem dX5_placeOfFall_5 : decode cX5_placeOfFall 5 = .ok (.imul, 1) := by decide +kernel
theorem dX5_placeOfFall_6 : decode cX5_placeOfFall 6 = .ok (.bipush 10, 2) := by decide +kernel
theorem dX5_placeOfFall_8 : decode cX5_placeOfFall 8 = .ok (.invokestatic 239, 3) := by decide +kernel
theorem dX5_placeOfFall_11 : decode cX5_placeOfFall 11 = .ok (.istore_n 3, 1) := by decide +kernel
theorem dX5_placeOfFall_12 : decode cX5_placeOfFall 12 = .ok (.aload_n 0, 1) := by decide +kernel
theorem dX5_placeOfFall_13 : decode cX5_placeOfFall 13 = .ok (.invokevirtual 242, 3) := by decide +kernel
theorem dX5_placeOfFall_16 : decode cX5_placeOfFall 16 = .ok (.iload_n 2, 1) := by decide +kernel
theorem dX5_placeOfFall_17 : decode cX5_placeOfFall 17 = .ok (.invokestatic 159, 3) := by decide +kernel
theorem dX5_placeOfFall_20 : decode cX5_placeOfFall 20 = .ok (.imul, 1) := by decide +kernel
theorem dX5_placeOfFall_21 : decode cX5_placeOfFall 21 = .ok (.iconst 2, 1) := by decide +kernel
theorem dX5_placeOfFall_22 : decode cX5_placeOfFall 22 = .ok (.invokestatic 239, 3) := by decide +kernel
theorem dX5_placeOfFall_25 : decode cX5_placeOfFall 25 = .ok (.istore 4, 2) := by decide +kernel
theorem dX5_placeOfFall_27 : decode cX5_placeOfFall 27 = .ok (.aload_n 1, 1) := by decide +kernel
theorem dX5_placeOfFall_28 : decode cX5_placeOfFall 28 = .ok (.getfield 245, 3) := by decide +kernel
theorem dX5_placeOfFall_31 : decode cX5_placeOfFall 31 = .ok (.iload_n 3, 1) := by decide +kernel
theorem dX5_placeOfFall_32 : decode cX5_placeOfFall 32 = .ok (.iadd, 1) := by decide +kernel
theorem dX5_placeOfFall_33 : decode cX5_placeOfFall 33 = .ok (.iload 4, 2) := by decide +kernel
theorem dX5_placeOfFall_35 : decode cX5_placeOfFall 35 = .ok (.iadd, 1) := by decide +kernel
theorem dX5_placeOfFall_36 : decode cX5_placeOfFall 36 = .ok (.ireturn, 1) := by decide +kernel
theorem dX5_windWithGust_0 : decode cX5_windWithGust 0 = .ok (.aload_n 0, 1) := by decide +kernel
theorem dX5_windWithGust_1 : decode cX5_windWithGust 1 = .ok (.getfield 248, 3) := by decide +kernel
theorem dX5_windWithGust_4 : decode cX5_windWithGust 4 = .ok (.ifCond .le 15, 3) := by decide +kernel
theorem dX5_windWithGust_7 : decode cX5_windWithGust 7 = .ok (.aload_n 0, 1) := by decide +kernel
theorem dX5_windWithGust_8 : decode cX5_windWithGust 8 = .ok (.getfield 248, 3) := by decide +kernel
theorem dX5_windWithGust_11 : decode cX5_windWithGust 11 = .ok (.aload_n 0, 1) := by decide +kernel
theorem dX5_windWithGust_12 : decode cX5_windWithGust 12 = .ok (.getfield 251, 3) := by decide +kernel
theorem dX5_windWithGust_15 : decode cX5_windWithGust 15 = .ok (.iadd, 1) := by decide +kernel
theorem dX5_windWithGust_16 : decode cX5_windWithGust 16 = .ok (.goto 23, 3) := by decide +kernel
theorem dX5_windWithGust_19 : decode cX5_windWithGust 19 = .ok (.aload_n 0, 1) := by decide +kernel
theorem dX5_windWithGust_20 : decode cX5_windWithGust 20 = .ok (.getfield 248, 3) := by decide +kernel
theorem dX5_windWithGust_23 : decode cX5_windWithGust 23 = .ok (.ifCond .ge 15, 3) := by decide +kernel
theorem dX5_windWithGust_26 : decode cX5_windWithGust 26 = .ok (.aload_n 0, 1) := by decide +kernel
theorem dX5_windWithGust_27 : decode cX5_windWithGust 27 = .ok (.getfield 248, 3) := by decide +kernel
theorem dX5_windWithGust_30 : decode cX5_windWithGust 30 = .ok (.aload_n 0, 1) := by decide +kernel
theorem dX5_windWithGust_31 : decode cX5_windWithGust 31 = .ok (.getfield 251, 3) := by decide +kernel
theorem dX5_windWithGust_34 : decode cX5_windWithGust 34 = .ok (.isub, 1) := by decide +kernel
theorem dX5_windWithGust_35 : decode cX5_windWithGust 35 = .ok (.goto 4, 3) := by decide +kernel
theorem dX5_windWithGust_38 : decode cX5_windWithGust 38 = .ok (.iconst 0, 1) := by decide +kernel
theorem dX5_windWithGust_39 : decode cX5_windWithGust 39 = .ok (.ireturn, 1) := by decide +kernel
theorem dX5_becomeLike_0 : decode cX5_becomeLike 0 = .ok (.iconst 0, 1) := by decide +kernel
theorem dX5_becomeLike_1 : decode cX5_becomeLike 1 = .ok (.istore_n 2, 1) := by decide +kernel
theorem dX5_becomeLike_2 : decode cX5_becomeLike 2 = .ok (.iload_n 2, 1) := by decide +kernel
theorem dX5_becomeLike_3 : decode cX5_becomeLike 3 = .ok (.aload_n 0, 1) := by decide +kernel
theorem dX5_becomeLike_4 : decode cX5_becomeLike 4 = .ok (.getfield 12, 3) := by decide +kernel
theorem dX5_becomeLike_7 : decode cX5_becomeLike 7 = .ok (.invokevirtual 35, 3) := by decide +kernel
theorem dX5_becomeLike_10 : decode cX5_becomeLike 10 = .ok (.if_icmp .ge 45, 3) := by decide +kernel
theorem dX5_becomeLike_13 : decode cX5_becomeLike 13 = .ok (.iload_n 2, 1) := by decide +kernel
theorem dX5_becomeLike_14 : decode cX5_becomeLike 14 = .ok (.aload_n 1, 1) := by decide +kernel
theorem dX5_becomeLike_15 : decode cX5_becomeLike 15 = .ok (.getfield 12, 3) := by decide +kernel
theorem dX5_becomeLike_18 : decode cX5_becomeLike 18 = .ok (.invokevirtual 35, 3) := by decide +kernel
theorem dX5_becomeLike_21 : decode cX5_becomeLike 21 = .ok (.if_icmp .ge 34, 3) := by decide +kernel
theorem dX5_becomeLike_24 : decode cX5_becomeLike 24 = .ok (.aload_n 0, 1) := by decide +kernel
theorem dX5_becomeLike_25 : decode cX5_becomeLike 25 = .ok (.getfield 12, 3) := by decide +kernel
theorem dX5_becomeLike_28 : decode cX5_becomeLike 28 = .ok (.iload_n 2, 1) := by decide +kernel
theorem dX5_becomeLike_29 : decode cX5_becomeLike 29 = .ok (.invokevirtual 41, 3) := by decide +kernel
theorem dX5_becomeLike_32 : decode cX5_becomeLike 32 = .ok (.checkcast 45, 3) := by decide +kernel
theorem dX5_becomeLike_35 : decode cX5_becomeLike 35 = .ok (.aload_n 1, 1) := by decide +kernel
theorem dX5_becomeLike_36 : decode cX5_becomeLike 36 = .ok (.getfield 12, 3) := by decide +kernel
theorem dX5_becomeLike_39 : decode cX5_becomeLike 39 = .ok (.iload_n 2, 1) := by decide +kernel
theorem dX5_becomeLike_40 : decode cX5_becomeLike 40 = .ok (.invokevirtual 41, 3) := by decide +kernel
theorem dX5_becomeLike_43 : decode cX5_becomeLike 43 = .ok (.checkcast 45, 3) := by decide +kernel
theorem dX5_becomeLike_46 : decode cX5_becomeLike 46 = .ok (.invokevirtual 254, 3) := by decide +kernel
theorem dX5_becomeLike_49 : decode cX5_becomeLike 49 = .ok (.iinc 2 1, 3) := by decide +kernel
theorem dX5_becomeLike_52 : decode cX5_becomeLike 52 = .ok (.goto (-50), 3) := by decide +kernel
theorem dX5_becomeLike_55 : decode cX5_becomeLike 55 = .ok (.iconst 0, 1) := by decide +kernel
theorem dX5_becomeLike_56 : decode cX5_becomeLike 56 = .ok (.istore_n 2, 1) := by decide +kernel
theorem dX5_becomeLike_57 : decode cX5_becomeLike 57 = .ok (.iload_n 2, 1) := by decide +kernel
theorem dX5_becomeLike_58 : decode cX5_becomeLike 58 = .ok (.aload_n 0, 1) := by decide +kernel
theorem dX5_becomeLike_59 : decode cX5_becomeLike 59 = .ok (.getfield 18, 3) := by decide +kernel
theorem dX5_becomeLike_62 : decode cX5_becomeLike 62 = .ok (.invokevirtual 35, 3) := by decide +kernel
theorem dX5_becomeLike_65 : decode cX5_becomeLike 65 = .ok (.if_icmp .ge 45, 3) := by decide +kernel
theorem dX5_becomeLike_68 : decode cX5_becomeLike 68 = .ok (.iload_n 2, 1) := by decide +kernel
theorem dX5_becomeLike_69 : decode cX5_becomeLike 69 = .ok (.aload_n 1, 1) := by decide +kernel
theorem dX5_becomeLike_70 : decode cX5_becomeLike 70 = .ok (.getfield 18, 3) := by decide +kernel
theorem dX5_becomeLike_73 : decode cX5_becomeLike 73 = .ok (.invokevirtual 35, 3) := by decide +kernel
theorem dX5_becomeLike_76 : decode cX5_becomeLike 76 = .ok (.if_icmp .ge 34, 3) := by decide +kernel
theorem dX5_becomeLike_79 : decode cX5_becomeLike 79 = .ok (.aload_n 0, 1) := by decide +kernel
theorem dX5_becomeLike_80 : decode cX5_becomeLike 80 = .ok (.getfield 18, 3) := by decide +kernel
theorem dX5_becomeLike_83 : decode cX5_becomeLike 83 = .ok (.iload_n 2, 1) := by decide +kernel
theorem dX5_becomeLike_84 : decode cX5_becomeLike 84 = .ok (.invokevirtual 41, 3) := by decide +kernel
theorem dX5_becomeLike_87 : decode cX5_becomeLike 87 = .ok (.checkcast 39, 3) := by decide +kernel
theorem dX5_becomeLike_90 : decode cX5_becomeLike 90 = .ok (.aload_n 1, 1) := by decide +kernel
theorem dX5_becomeLike_91 : decode cX5_becomeLike 91 = .ok (.getfield 18, 3) := by decide +kernel
theorem dX5_becomeLike_94 : decode cX5_becomeLike 94 = .ok (.iload_n 2, 1) := by decide +kernel
theorem dX5_becomeLike_95 : decode cX5_becomeLike 95 = .ok (.invokevirtual 41, 3) := by decide +kernel
theorem dX5_becomeLike_98 : decode cX5_becomeLike 98 = .ok (.checkcast 39, 3) := by decide +kernel
theorem dX5_becomeLike_101 : decode cX5_becomeLike 101 = .ok (.invokevirtual 258, 3) := by decide +kernel
theorem dX5_becomeLike_104 : decode cX5_becomeLike 104 = .ok (.iinc 2 1, 3) := by decide +kernel
theorem dX5_becomeLike_107 : decode cX5_becomeLike 107 = .ok (.goto (-50), 3) := by decide +kernel
theorem dX5_becomeLike_110 : decode cX5_becomeLike 110 = .ok (.aload_n 0, 1) := by decide +kernel
theorem dX5_becomeLike_111 : decode cX5_becomeLike 111 = .ok (.getfield 27, 3) := by decide +kernel
theorem dX5_becomeLike_114 : decode cX5_becomeLike 114 = .ok (.aload_n 1, 1) := by decide +kernel
theorem dX5_becomeLike_115 : decode cX5_becomeLike 115 = .ok (.getfield 27, 3) := by decide +kernel
theorem dX5_becomeLike_118 : decode cX5_becomeLike 118 = .ok (.invokevirtual 261, 3) := by decide +kernel
theorem dX5_becomeLike_121 : decode cX5_becomeLike 121 = .ok (.aload_n 0, 1) := by decide +kernel
theorem dX5_becomeLike_122 : decode cX5_becomeLike 122 = .ok (.aload_n 1, 1) := by decide +kernel
theorem dX5_becomeLike_123 : decode cX5_becomeLike 123 = .ok (.getfield 62, 3) := by decide +kernel
theorem dX5_becomeLike_126 : decode cX5_becomeLike 126 = .ok (.putfield 62, 3) := by decide +kernel
theorem dX5_becomeLike_129 : decode cX5_becomeLike 129 = .ok (.aload_n 0, 1) := by decide +kernel
theorem dX5_becomeLike_130 : decode cX5_becomeLike 130 = .ok (.aload_n 1, 1) := by decide +kernel
theorem dX5_becomeLike_131 : decode cX5_becomeLike 131 = .ok (.getfield 31, 3) := by decide +kernel
theorem dX5_becomeLike_134 : decode cX5_becomeLike 134 = .ok (.putfield 31, 3) := by decide +kernel
theorem dX5_becomeLike_137 : decode cX5_becomeLike 137 = .ok (.aload_n 0, 1) := by decide +kernel
theorem dX5_becomeLike_138 : decode cX5_becomeLike 138 = .ok (.aload_n 1, 1) := by decide +kernel
theorem dX5_becomeLike_139 : decode cX5_becomeLike 139 = .ok (.getfield 206, 3) := by decide +kernel
theorem dX5_becomeLike_142 : decode cX5_becomeLike 142 = .ok (.putfield 206, 3) := by decide +kernel
theorem dX5_becomeLike_145 : decode cX5_becomeLike 145 = .ok (.aload_n 0, 1) := by decide +kernel
theorem dX5_becomeLike_146 : decode cX5_becomeLike 146 = .ok (.aload_n 1, 1) := by decide +kernel
theorem dX5_becomeLike_147 : decode cX5_becomeLike 147 = .ok (.getfield 144, 3) := by decide +kernel
theorem dX5_becomeLike_150 : decode cX5_becomeLike 150 = .ok (.putfield 144, 3) := by decide +kernel
theorem dX5_becomeLike_153 : decode cX5_becomeLike 153 = .ok (.aload_n 0, 1) := by decide +kernel
theorem dX5_becomeLike_154 : decode cX5_becomeLike 154 = .ok (.aload_n 1, 1) := by decide +kernel
theorem dX5_becomeLike_155 : decode cX5_becomeLike 155 = .ok (.getfield 138, 3) := by decide +kernel
theorem dX5_becomeLike_158 : decode cX5_becomeLike 158 = .ok (.putfield 138, 3) := by decide +kernel
theorem dX5_becomeLike_161 : decode cX5_becomeLike 161 = .ok (.aload_n 0, 1) := by decide +kernel
theorem dX5_becomeLike_162 : decode cX5_becomeLike 162 = .ok (.aload_n 1, 1) := by decide +kernel
theorem dX5_becomeLike_163 : decode cX5_becomeLike 163 = .ok (.getfield 173, 3) := by decide +kernel
theorem dX5_becomeLike_166 : decode cX5_becomeLike 166 = .ok (.putfield 173, 3) := by decide +kernel
theorem dX5_becomeLike_169 : decode cX5_becomeLike 169 = .ok (.aload_n 0, 1) := by decide +kernel
theorem dX5_becomeLike_170 : decode cX5_becomeLike 170 = .ok (.aload_n 1, 1) := by decide +kernel
theorem dX5_becomeLike_171 : decode cX5_becomeLike 171 = .ok (.getfield 191, 3) := by decide +kernel
theorem dX5_becomeLike_174 : decode cX5_becomeLike 174 = .ok (.putfield 191, 3) := by decide +kernel
theorem dX5_becomeLike_177 : decode cX5_becomeLike 177 = .ok (.aload_n 0, 1) := by decide +kernel
theorem dX5_becomeLike_178 : decode cX5_becomeLike 178 = .ok (.aload_n 1, 1) := by decide +kernel
theorem dX5_becomeLike_179 : decode cX5_becomeLike 179 = .ok (.getfield 194, 3) := by decide +kernel
theorem dX5_becomeLike_182 : decode cX5_becomeLike 182 = .ok (.putfield 194, 3) := by decide +kernel
theorem dX5_becomeLike_185 : decode cX5_becomeLike 185 = .ok (.aload_n 0, 1) := by decide +kernel
theorem dX5_becomeLike_186 : decode cX5_becomeLike 186 = .ok (.aload_n 1, 1) := by decide +kernel
theorem dX5_becomeLike_187 : decode cX5_becomeLike 187 = .ok (.getfield 248, 3) := by decide +kernel
theorem dX5_becomeLike_190 : decode cX5_becomeLike 190 = .ok (.putfield 248, 3) := by decide +kernel
theorem dX5_becomeLike_193 : decode cX5_becomeLike 193 = .ok (.aload_n 0, 1) := by decide +kernel
theorem dX5_becomeLike_194 : decode cX5_becomeLike 194 = .ok (.aload_n 1, 1) := by decide +kernel
theorem dX5_becomeLike_195 : decode cX5_becomeLike 195 = .ok (.getfield 251, 3) := by decide +kernel
theorem dX5_becomeLike_198 : decode cX5_becomeLike 198 = .ok (.putfield 251, 3) := by decide +kernel
theorem dX5_becomeLike_201 : decode cX5_becomeLike 201 = .ok (.aload_n 0, 1) := by decide +kernel
theorem dX5_becomeLike_202 : decode cX5_becomeLike 202 = .ok (.aload_n 1, 1) := by decide +kernel
theorem dX5_becomeLike_203 : decode cX5_becomeLike 203 = .ok (.getfield 65, 3) := by decide +kernel
theorem dX5_becomeLike_206 : decode cX5_becomeLike 206 = .ok (.putfield 65, 3) := by decide +kernel
theorem dX5_becomeLike_209 : decode cX5_becomeLike 209 = .ok (.return_, 1) := by decide +kernel
theorem dX6_init_0 : decode cX6_init 0 = .ok (.aload_n 0, 1) := by decide +kernel
theorem dX6_init_1 : decode cX6_init 1 = .ok (.invokespecial 1, 3) := by decide +kernel
theorem dX6_init_4 : decode cX6_init 4 = .ok (.aload_n 0, 1) := by decide +kernel
theorem dX6_init_5 : decode cX6_init 5 = .ok (.iload_n 1, 1) := by decide +kernel
theorem dX6_init_6 : decode cX6_init 6 = .ok (.putfield 7, 3) := by decide +kernel
theorem dX6_init_9 : decode cX6_init 9 = .ok (.aload_n 0, 1) := by decide +kernel
theorem dX6_init_10 : decode cX6_init 10 = .ok (.iload_n 2, 1) := by decide +kernel
theorem dX6_init_11 : decode cX6_init 11 = .ok (.putfield 13, 3) := by decide +kernel
theorem dX6_init_14 : decode cX6_init 14 = .ok (.aload_n 0, 1) := by decide +kernel
theorem dX6_init_15 : decode cX6_init 15 = .ok (.iload_n 3, 1) := by decide +kernel
theorem dX6_init_16 : decode cX6_init 16 = .ok (.putfield 16, 3) := by decide +kernel
theorem dX6_init_19 : decode cX6_init 19 = .ok (.return_, 1) := by decide +kernel
theorem dX6_names_0 : decode cX6_names 0 = .ok (.aload_n 0, 1) := by decide +kernel
theorem dX6_names_1 : decode cX6_names 1 = .ok (.getfield 13, 3) := by decide +kernel
theorem dX6_names_4 : decode cX6_names 4 = .ok (.iload_n 1, 1) := by decide +kernel
theorem dX6_names_5 : decode cX6_names 5 = .ok (.ishr, 1) := by decide +kernel
theorem dX6_names_6 : decode cX6_names 6 = .ok (.iconst 1, 1) := by decide +kernel
theorem dX6_names_7 : decode cX6_names 7 = .ok (.iand, 1) := by decide +kernel
theorem dX6_names_8 : decode cX6_names 8 = .ok (.iconst 1, 1) := by decide +kernel
theorem dX6_names_9 : decode cX6_names 9 = .ok (.if_icmp .ne 7, 3) := by decide +kernel
theorem dX6_names_12 : decode cX6_names 12 = .ok (.iconst 1, 1) := by decide +kernel
theorem dX6_names_13 : decode cX6_names 13 = .ok (.goto 4, 3) := by decide +kernel
theorem dX6_names_16 : decode cX6_names 16 = .ok (.iconst 0, 1) := by decide +kernel
theorem dX6_names_17 : decode cX6_names 17 = .ok (.ireturn, 1) := by decide +kernel
theorem dX7_init_0 : decode cX7_init 0 = .ok (.aload_n 0, 1) := by decide +kernel
theorem dX7_init_1 : decode cX7_init 1 = .ok (.invokespecial 1, 3) := by decide +kernel
theorem dX7_init_4 : decode cX7_init 4 = .ok (.aload_n 0, 1) := by decide +kernel
theorem dX7_init_5 : decode cX7_init 5 = .ok (.new 7, 3) := by decide +kernel
theorem dX7_init_8 : decode cX7_init 8 = .ok (.dup, 1) := by decide +kernel
theorem dX7_init_9 : decode cX7_init 9 = .ok (.invokespecial 9, 3) := by decide +kernel
theorem dX7_init_12 : decode cX7_init 12 = .ok (.putfield 10, 3) := by decide +kernel
theorem dX7_init_15 : decode cX7_init 15 = .ok (.aload_n 0, 1) := by decide +kernel
theorem dX7_init_16 : decode cX7_init 16 = .ok (.new 16, 3) := by decide +kernel
theorem dX7_init_19 : decode cX7_init 19 = .ok (.dup, 1) := by decide +kernel
theorem dX7_init_20 : decode cX7_init 20 = .ok (.invokespecial 18, 3) := by decide +kernel
theorem dX7_init_23 : decode cX7_init 23 = .ok (.putfield 19, 3) := by decide +kernel
theorem dX7_init_26 : decode cX7_init 26 = .ok (.aload_n 0, 1) := by decide +kernel
theorem dX7_init_27 : decode cX7_init 27 = .ok (.new 16, 3) := by decide +kernel
theorem dX7_init_30 : decode cX7_init 30 = .ok (.dup, 1) := by decide +kernel
theorem dX7_init_31 : decode cX7_init 31 = .ok (.invokespecial 18, 3) := by decide +kernel
theorem dX7_init_34 : decode cX7_init 34 = .ok (.putfield 23, 3) := by decide +kernel
theorem dX7_init_37 : decode cX7_init 37 = .ok (.return_, 1) := by decide +kernel
theorem dX7_pump_0 : decode cX7_pump 0 = .ok (.iload_n 1, 1) := by decide +kernel
theorem dX7_pump_1 : decode cX7_pump 1 = .ok (.bipush 10, 2) := by decide +kernel
theorem dX7_pump_3 : decode cX7_pump 3 = .ok (.if_icmp .lt 9, 3) := by decide +kernel
theorem dX7_pump_6 : decode cX7_pump 6 = .ok (.iload_n 1, 1) := by decide +kernel
theorem dX7_pump_7 : decode cX7_pump 7 = .ok (.bipush 60, 2) := by decide +kernel
theorem dX7_pump_9 : decode cX7_pump 9 = .ok (.if_icmp .le 13, 3) := by decide +kernel
theorem dX7_pump_12 : decode cX7_pump 12 = .ok (.new 26, 3) := by decide +kernel
theorem dX7_pump_15 : decode cX7_pump 15 = .ok (.dup, 1) := by decide +kernel
theorem dX7_pump_16 : decode cX7_pump 16 = .ok (.ldc 28, 2) := by decide +kernel
theorem dX7_pump_18 : decode cX7_pump 18 = .ok (.invokespecial 30, 3) := by decide +kernel
theorem dX7_pump_21 : decode cX7_pump 21 = .ok (.athrow, 1) := by decide +kernel
theorem dX7_pump_22 : decode cX7_pump 22 = .ok (.aload_n 0, 1) := by decide +kernel
theorem dX7_pump_23 : decode cX7_pump 23 = .ok (.getfield 19, 3) := by decide +kernel
theorem dX7_pump_26 : decode cX7_pump 26 = .ok (.getfield 33, 3) := by decide +kernel
theorem dX7_pump_29 : decode cX7_pump 29 = .ok (.invokevirtual 36, 3) := by decide +kernel
theorem dX7_pump_32 : decode cX7_pump 32 = .ok (.istore_n 2, 1) := by decide +kernel
theorem dX7_pump_33 : decode cX7_pump 33 = .ok (.iload_n 2, 1) := by decide +kernel
theorem dX7_pump_34 : decode cX7_pump 34 = .ok (.iconst 3, 1) := by decide +kernel
theorem dX7_pump_35 : decode cX7_pump 35 = .ok (.if_icmp .lt 13, 3) := by decide +kernel
theorem dX7_pump_38 : decode cX7_pump 38 = .ok (.new 40, 3) := by decide +kernel
theorem dX7_pump_41 : decode cX7_pump 41 = .ok (.dup, 1) := by decide +kernel
theorem dX7_pump_42 : decode cX7_pump 42 = .ok (.ldc 42, 2) := by decide +kernel
theorem dX7_pump_44 : decode cX7_pump 44 = .ok (.invokespecial 44, 3) := by decide +kernel
theorem dX7_pump_47 : decode cX7_pump 47 = .ok (.athrow, 1) := by decide +kernel
theorem dX7_pump_48 : decode cX7_pump 48 = .ok (.aload_n 0, 1) := by decide +kernel
theorem dX7_pump_49 : decode cX7_pump 49 = .ok (.getfield 19, 3) := by decide +kernel
theorem dX7_pump_52 : decode cX7_pump 52 = .ok (.getfield 33, 3) := by decide +kernel
theorem dX7_pump_55 : decode cX7_pump 55 = .ok (.new 45, 3) := by decide +kernel
theorem dX7_pump_58 : decode cX7_pump 58 = .ok (.dup, 1) := by decide +kernel
theorem dX7_pump_59 : decode cX7_pump 59 = .ok (.iload_n 2, 1) := by decide +kernel
theorem dX7_pump_60 : decode cX7_pump 60 = .ok (.iload_n 1, 1) := by decide +kernel
theorem dX7_pump_61 : decode cX7_pump 61 = .ok (.invokespecial 47, 3) := by decide +kernel
theorem dX7_pump_64 : decode cX7_pump 64 = .ok (.invokevirtual 50, 3) := by decide +kernel
theorem dX7_pump_67 : decode cX7_pump 67 = .ok (.pop, 1) := by decide +kernel
theorem dX7_pump_68 : decode cX7_pump 68 = .ok (.aload_n 0, 1) := by decide +kernel
theorem dX7_pump_69 : decode cX7_pump 69 = .ok (.getfield 23, 3) := by decide +kernel
theorem dX7_pump_72 : decode cX7_pump 72 = .ok (.getfield 33, 3) := by decide +kernel
theorem dX7_pump_75 : decode cX7_pump 75 = .ok (.new 45, 3) := by decide +kernel
theorem dX7_pump_78 : decode cX7_pump 78 = .ok (.dup, 1) := by decide +kernel
theorem dX7_pump_79 : decode cX7_pump 79 = .ok (.iload_n 2, 1) := by decide +kernel
theorem dX7_pump_80 : decode cX7_pump 80 = .ok (.iload_n 1, 1) := by decide +kernel
theorem dX7_pump_81 : decode cX7_pump 81 = .ok (.invokespecial 47, 3) := by decide +kernel
theorem dX7_pump_84 : decode cX7_pump 84 = .ok (.invokevirtual 50, 3) := by decide +kernel
theorem dX7_pump_87 : decode cX7_pump 87 = .ok (.pop, 1) := by decide +kernel
theorem dX7_pump_88 : decode cX7_pump 88 = .ok (.iload_n 2, 1) := by decide +kernel
theorem dX7_pump_89 : decode cX7_pump 89 = .ok (.ireturn, 1) := by decide +kernel
theorem dX7_jet_0 : decode cX7_jet 0 = .ok (.aload_n 0, 1) := by decide +kernel
theorem dX7_jet_1 : decode cX7_jet 1 = .ok (.iload_n 1, 1) := by decide +kernel
theorem dX7_jet_2 : decode cX7_jet 2 = .ok (.invokevirtual 54, 3) := by decide +kernel
theorem dX7_jet_5 : decode cX7_jet 5 = .ok (.pop, 1) := by decide +kernel
theorem dX7_jet_6 : decode cX7_jet 6 = .ok (.iload_n 2, 1) := by decide +kernel
theorem dX7_jet_7 : decode cX7_jet 7 = .ok (.ifCond .lt 32, 3) := by decide +kernel
theorem dX7_jet_10 : decode cX7_jet 10 = .ok (.iload_n 2, 1) := by decide +kernel
theorem dX7_jet_11 : decode cX7_jet 11 = .ok (.bipush 19, 2) := by decide +kernel
theorem dX7_jet_13 : decode cX7_jet 13 = .ok (.if_icmp .gt 26, 3) := by decide +kernel
theorem dX7_jet_16 : decode cX7_jet 16 = .ok (.iload_n 3, 1) := by decide +kernel
theorem dX7_jet_17 : decode cX7_jet 17 = .ok (.iconst 1, 1) := by decide +kernel
theorem dX7_jet_18 : decode cX7_jet 18 = .ok (.if_icmp .lt 21, 3) := by decide +kernel
theorem dX7_jet_21 : decode cX7_jet 21 = .ok (.iload_n 3, 1) := by decide +kernel
theorem dX7_jet_22 : decode cX7_jet 22 = .ok (.iconst 5, 1) := by decide +kernel
theorem dX7_jet_23 : decode cX7_jet 23 = .ok (.if_icmp .gt 16, 3) := by decide +kernel
theorem dX7_jet_26 : decode cX7_jet 26 = .ok (.iload 4, 2) := by decide +kernel
theorem dX7_jet_28 : decode cX7_jet 28 = .ok (.bipush (-3), 2) := by decide +kernel
theorem dX7_jet_30 : decode cX7_jet 30 = .ok (.if_icmp .lt 9, 3) := by decide +kernel
theorem dX7_jet_33 : decode cX7_jet 33 = .ok (.iload 4, 2) := by decide +kernel
theorem dX7_jet_35 : decode cX7_jet 35 = .ok (.iconst 3, 1) := by decide +kernel
theorem dX7_jet_36 : decode cX7_jet 36 = .ok (.if_icmp .le 13, 3) := by decide +kernel
theorem dX7_jet_39 : decode cX7_jet 39 = .ok (.new 26, 3) := by decide +kernel
theorem dX7_jet_42 : decode cX7_jet 42 = .ok (.dup, 1) := by decide +kernel
theorem dX7_jet_43 : decode cX7_jet 43 = .ok (.ldc 58, 2) := by decide +kernel
theorem dX7_jet_45 : decode cX7_jet 45 = .ok (.invokespecial 30, 3) := by decide +kernel
theorem dX7_jet_48 : decode cX7_jet 48 = .ok (.athrow, 1) := by decide +kernel
theorem dX7_jet_49 : decode cX7_jet 49 = .ok (.aload_n 0, 1) := by decide +kernel
theorem dX7_jet_50 : decode cX7_jet 50 = .ok (.getfield 19, 3) := by decide +kernel
theorem dX7_jet_53 : decode cX7_jet 53 = .ok (.getfield 60, 3) := by decide +kernel
theorem dX7_jet_56 : decode cX7_jet 56 = .ok (.invokevirtual 36, 3) := by decide +kernel
theorem dX7_jet_59 : decode cX7_jet 59 = .ok (.istore 5, 2) := by decide +kernel
theorem dX7_jet_61 : decode cX7_jet 61 = .ok (.iload 5, 2) := by decide +kernel
theorem dX7_jet_63 : decode cX7_jet 63 = .ok (.bipush 10, 2) := by decide +kernel
theorem dX7_jet_65 : decode cX7_jet 65 = .ok (.if_icmp .lt 13, 3) := by decide +kernel
theorem dX7_jet_68 : decode cX7_jet 68 = .ok (.new 40, 3) := by decide +kernel
theorem dX7_jet_71 : decode cX7_jet 71 = .ok (.dup, 1) := by decide +kernel
theorem dX7_jet_72 : decode cX7_jet 72 = .ok (.ldc 63, 2) := by decide +kernel
theorem dX7_jet_74 : decode cX7_jet 74 = .ok (.invokespecial 44, 3) := by decide +kernel
theorem dX7_jet_77 : decode cX7_jet 77 = .ok (.athrow, 1) := by decide +kernel
theorem dX7_jet_78 : decode cX7_jet 78 = .ok (.aload_n 0, 1) := by decide +kernel
theorem dX7_jet_79 : decode cX7_jet 79 = .ok (.getfield 19, 3) := by decide +kernel
theorem dX7_jet_82 : decode cX7_jet 82 = .ok (.iload_n 1, 1) := by decide +kernel
theorem dX7_jet_83 : decode cX7_jet 83 = .ok (.iload_n 2, 1) := by decide +kernel
theorem dX7_jet_84 : decode cX7_jet 84 = .ok (.iload_n 3, 1) := by decide +kernel
theorem dX7_jet_85 : decode cX7_jet 85 = .ok (.iload 4, 2) := by decide +kernel
theorem dX7_jet_87 : decode cX7_jet 87 = .ok (.invokevirtual 65, 3) := by decide +kernel
theorem dX7_jet_90 : decode cX7_jet 90 = .ok (.aload_n 0, 1) := by decide +kernel
theorem dX7_jet_91 : decode cX7_jet 91 = .ok (.getfield 23, 3) := by decide +kernel
theorem dX7_jet_94 : decode cX7_jet 94 = .ok (.iload_n 1, 1) := by decide +kernel
theorem dX7_jet_95 : decode cX7_jet 95 = .ok (.iload_n 2, 1) := by decide +kernel
theorem dX7_jet_96 : decode cX7_jet 96 = .ok (.iload_n 3, 1) := by decide +kernel
theorem dX7_jet_97 : decode cX7_jet 97 = .ok (.iload 4, 2) := by decide +kernel
theorem dX7_jet_99 : decode cX7_jet 99 = .ok (.invokevirtual 65, 3) := by decide +kernel
theorem dX7_jet_102 : decode cX7_jet 102 = .ok (.iload 5, 2) := by decide +kernel
theorem dX7_jet_104 : decode cX7_jet 104 = .ok (.ireturn, 1) := by decide +kernel
theorem dX7_figure_0 : decode cX7_figure 0 = .ok (.aload_n 0, 1) := by decide +kernel
theorem dX7_figure_1 : decode cX7_figure 1 = .ok (.getfield 10, 3) := by decide +kernel
theorem dX7_figure_4 : decode cX7_figure 4 = .ok (.invokevirtual 36, 3) := by decide +kernel
theorem dX7_figure_7 : decode cX7_figure 7 = .ok (.istore_n 1, 1) := by decide +kernel
theorem dX7_figure_8 : decode cX7_figure 8 = .ok (.iload_n 1, 1) := by decide +kernel
theorem dX7_figure_9 : decode cX7_figure 9 = .ok (.iconst 5, 1) := by decide +kernel
theorem dX7_figure_10 : decode cX7_figure 10 = .ok (.if_icmp .lt 13, 3) := by decide +kernel
theorem dX7_figure_13 : decode cX7_figure 13 = .ok (.new 40, 3) := by decide +kernel
theorem dX7_figure_16 : decode cX7_figure 16 = .ok (.dup, 1) := by decide +kernel
theorem dX7_figure_17 : decode cX7_figure 17 = .ok (.ldc 69, 2) := by decide +kernel
theorem dX7_figure_19 : decode cX7_figure 19 = .ok (.invokespecial 44, 3) := by decide +kernel
theorem dX7_figure_22 : decode cX7_figure 22 = .ok (.athrow, 1) := by decide +kernel
theorem dX7_figure_23 : decode cX7_figure 23 = .ok (.aload_n 0, 1) := by decide +kernel
theorem dX7_figure_24 : decode cX7_figure 24 = .ok (.getfield 10, 3) := by decide +kernel
theorem dX7_figure_27 : decode cX7_figure 27 = .ok (.new 71, 3) := by decide +kernel
theorem dX7_figure_30 : decode cX7_figure 30 = .ok (.dup, 1) := by decide +kernel
theorem dX7_figure_31 : decode cX7_figure 31 = .ok (.invokespecial 73, 3) := by decide +kernel
theorem dX7_figure_34 : decode cX7_figure 34 = .ok (.invokevirtual 50, 3) := by decide +kernel
theorem dX7_figure_37 : decode cX7_figure 37 = .ok (.pop, 1) := by decide +kernel
theorem dX7_figure_38 : decode cX7_figure 38 = .ok (.iload_n 1, 1) := by decide +kernel
theorem dX7_figure_39 : decode cX7_figure 39 = .ok (.ireturn, 1) := by decide +kernel
theorem dX7_step_0 : decode cX7_step 0 = .ok (.aload_n 0, 1) := by decide +kernel
theorem dX7_step_1 : decode cX7_step 1 = .ok (.iload_n 1, 1) := by decide +kernel
theorem dX7_step_2 : decode cX7_step 2 = .ok (.invokevirtual 74, 3) := by decide +kernel
theorem dX7_step_5 : decode cX7_step 5 = .ok (.astore 5, 2) := by decide +kernel
theorem dX7_step_7 : decode cX7_step 7 = .ok (.iload_n 2, 1) := by decide +kernel
theorem dX7_step_8 : decode cX7_step 8 = .ok (.ifCond .lt 29, 3) := by decide +kernel
theorem dX7_step_11 : decode cX7_step 11 = .ok (.iload_n 2, 1) := by decide +kernel
theorem dX7_step_12 : decode cX7_step 12 = .ok (.bipush 99, 2) := by decide +kernel
theorem dX7_step_14 : decode cX7_step 14 = .ok (.if_icmp .gt 23, 3) := by decide +kernel
theorem dX7_step_17 : decode cX7_step 17 = .ok (.iload_n 3, 1) := by decide +kernel
theorem dX7_step_18 : decode cX7_step 18 = .ok (.iconst 1, 1) := by decide +kernel
theorem dX7_step_19 : decode cX7_step 19 = .ok (.if_icmp .lt 18, 3) := by decide +kernel
theorem dX7_step_22 : decode cX7_step 22 = .ok (.iload_n 3, 1) := by decide +kernel
theorem dX7_step_23 : decode cX7_step 23 = .ok (.sipush 1023, 3) := by decide +kernel
theorem dX7_step_26 : decode cX7_step 26 = .ok (.if_icmp .gt 11, 3) := by decide +kernel
theorem dX7_step_29 : decode cX7_step 29 = .ok (.iload 4, 2) := by decide +kernel
theorem dX7_step_31 : decode cX7_step 31 = .ok (.invokestatic 78, 3) := by decide +kernel
theorem dX7_step_34 : decode cX7_step 34 = .ok (.ifCond .ne 13, 3) := by decide +kernel
theorem dX7_step_37 : decode cX7_step 37 = .ok (.new 26, 3) := by decide +kernel
theorem dX7_step_40 : decode cX7_step 40 = .ok (.dup, 1) := by decide +kernel
theorem dX7_step_41 : decode cX7_step 41 = .ok (.ldc 82, 2) := by decide +kernel
theorem dX7_step_43 : decode cX7_step 43 = .ok (.invokespecial 30, 3) := by decide +kernel
theorem dX7_step_46 : decode cX7_step 46 = .ok (.athrow, 1) := by decide +kernel
theorem dX7_step_47 : decode cX7_step 47 = .ok (.aload 5, 2) := by decide +kernel
theorem dX7_step_49 : decode cX7_step 49 = .ok (.getfield 84, 3) := by decide +kernel
theorem dX7_step_52 : decode cX7_step 52 = .ok (.invokevirtual 36, 3) := by decide +kernel
theorem dX7_step_55 : decode cX7_step 55 = .ok (.bipush 8, 2) := by decide +kernel
theorem dX7_step_57 : decode cX7_step 57 = .ok (.if_icmp .lt 13, 3) := by decide +kernel
theorem dX7_step_60 : decode cX7_step 60 = .ok (.new 40, 3) := by decide +kernel
theorem dX7_step_63 : decode cX7_step 63 = .ok (.dup, 1) := by decide +kernel
theorem dX7_step_64 : decode cX7_step 64 = .ok (.ldc 87, 2) := by decide +kernel
theorem dX7_step_66 : decode cX7_step 66 = .ok (.invokespecial 44, 3) := by decide +kernel
theorem dX7_step_69 : decode cX7_step 69 = .ok (.athrow, 1) := by decide +kernel
theorem dX7_step_70 : decode cX7_step 70 = .ok (.aload 5, 2) := by decide +kernel
theorem dX7_step_72 : decode cX7_step 72 = .ok (.getfield 84, 3) := by decide +kernel
theorem dX7_step_75 : decode cX7_step 75 = .ok (.new 89, 3) := by decide +kernel
theorem dX7_step_78 : decode cX7_step 78 = .ok (.dup, 1) := by decide +kernel
theorem dX7_step_79 : decode cX7_step 79 = .ok (.iload_n 2, 1) := by decide +kernel
theorem dX7_step_80 : decode cX7_step 80 = .ok (.iload_n 3, 1) := by decide +kernel
theorem dX7_step_81 : decode cX7_step 81 = .ok (.iload 4, 2) := by decide +kernel
theorem dX7_step_83 : decode cX7_step 83 = .ok (.invokespecial 91, 3) := by decide +kernel
theorem dX7_step_86 : decode cX7_step 86 = .ok (.invokevirtual 50, 3) := by decide +kernel
theorem dX7_step_89 : decode cX7_step 89 = .ok (.pop, 1) := by decide +kernel
theorem dX7_step_90 : decode cX7_step 90 = .ok (.aload 5, 2) := by decide +kernel
theorem dX7_step_92 : decode cX7_step 92 = .ok (.getfield 84, 3) := by decide +kernel
theorem dX7_step_95 : decode cX7_step 95 = .ok (.invokevirtual 36, 3) := by decide +kernel
theorem dX7_step_98 : decode cX7_step 98 = .ok (.ireturn, 1) := by decide +kernel
theorem dX7_wind_0 : decode cX7_wind 0 = .ok (.iload_n 1, 1) := by decide +kernel
theorem dX7_wind_1 : decode cX7_wind 1 = .ok (.bipush (-4), 2) := by decide +kernel
theorem dX7_wind_3 : decode cX7_wind 3 = .ok (.if_icmp .lt 17, 3) := by decide +kernel
theorem dX7_wind_6 : decode cX7_wind 6 = .ok (.iload_n 1, 1) := by decide +kernel
theorem dX7_wind_7 : decode cX7_wind 7 = .ok (.iconst 4, 1) := by decide +kernel
theorem dX7_wind_8 : decode cX7_wind 8 = .ok (.if_icmp .gt 12, 3) := by decide +kernel
theorem dX7_wind_11 : decode cX7_wind 11 = .ok (.iload_n 2, 1) := by decide +kernel
theorem dX7_wind_12 : decode cX7_wind 12 = .ok (.ifCond .lt 8, 3) := by decide +kernel
theorem dX7_wind_15 : decode cX7_wind 15 = .ok (.iload_n 2, 1) := by decide +kernel
theorem dX7_wind_16 : decode cX7_wind 16 = .ok (.iconst 2, 1) := by decide +kernel
theorem dX7_wind_17 : decode cX7_wind 17 = .ok (.if_icmp .le 13, 3) := by decide +kernel
theorem dX7_wind_20 : decode cX7_wind 20 = .ok (.new 26, 3) := by decide +kernel
theorem dX7_wind_23 : decode cX7_wind 23 = .ok (.dup, 1) := by decide +kernel
theorem dX7_wind_24 : decode cX7_wind 24 = .ok (.ldc 94, 2) := by decide +kernel
theorem dX7_wind_26 : decode cX7_wind 26 = .ok (.invokespecial 30, 3) := by decide +kernel
theorem dX7_wind_29 : decode cX7_wind 29 = .ok (.athrow, 1) := by decide +kernel
theorem dX7_wind_30 : decode cX7_wind 30 = .ok (.aload_n 0, 1) := by decide +kernel
theorem dX7_wind_31 : decode cX7_wind 31 = .ok (.getfield 19, 3) := by decide +kernel
theorem dX7_wind_34 : decode cX7_wind 34 = .ok (.getfield 96, 3) := by decide +kernel
theorem dX7_wind_37 : decode cX7_wind 37 = .ok (.istore_n 3, 1) := by decide +kernel
theorem dX7_wind_38 : decode cX7_wind 38 = .ok (.aload_n 0, 1) := by decide +kernel
theorem dX7_wind_39 : decode cX7_wind 39 = .ok (.getfield 19, 3) := by decide +kernel
theorem dX7_wind_42 : decode cX7_wind 42 = .ok (.iload_n 1, 1) := by decide +kernel
theorem dX7_wind_43 : decode cX7_wind 43 = .ok (.putfield 96, 3) := by decide +kernel
theorem dX7_wind_46 : decode cX7_wind 46 = .ok (.aload_n 0, 1) := by decide +kernel
theorem dX7_wind_47 : decode cX7_wind 47 = .ok (.getfield 19, 3) := by decide +kernel
theorem dX7_wind_50 : decode cX7_wind 50 = .ok (.iload_n 2, 1) := by decide +kernel
theorem dX7_wind_51 : decode cX7_wind 51 = .ok (.putfield 100, 3) := by decide +kernel
theorem dX7_wind_54 : decode cX7_wind 54 = .ok (.iload_n 3, 1) := by decide +kernel
theorem dX7_wind_55 : decode cX7_wind 55 = .ok (.ireturn, 1) := by decide +kernel
theorem dX7_valve_0 : decode cX7_valve 0 = .ok (.aload_n 0, 1) := by decide +kernel
theorem dX7_valve_1 : decode cX7_valve 1 = .ok (.iload_n 1, 1) := by decide +kernel
theorem dX7_valve_2 : decode cX7_valve 2 = .ok (.invokevirtual 103, 3) := by decide +kernel
theorem dX7_valve_5 : decode cX7_valve 5 = .ok (.astore_n 3, 1) := by decide +kernel
theorem dX7_valve_6 : decode cX7_valve 6 = .ok (.iload_n 2, 1) := by decide +kernel
theorem dX7_valve_7 : decode cX7_valve 7 = .ok (.ifCond .lt 8, 3) := by decide +kernel
theorem dX7_valve_10 : decode cX7_valve 10 = .ok (.iload_n 2, 1) := by decide +kernel
theorem dX7_valve_11 : decode cX7_valve 11 = .ok (.iconst 4, 1) := by decide +kernel
theorem dX7_valve_12 : decode cX7_valve 12 = .ok (.if_icmp .le 13, 3) := by decide +kernel
theorem dX7_valve_15 : decode cX7_valve 15 = .ok (.new 26, 3) := by decide +kernel
theorem dX7_valve_18 : decode cX7_valve 18 = .ok (.dup, 1) := by decide +kernel
theorem dX7_valve_19 : decode cX7_valve 19 = .ok (.ldc 107, 2) := by decide +kernel
theorem dX7_valve_21 : decode cX7_valve 21 = .ok (.invokespecial 30, 3) := by decide +kernel
theorem dX7_valve_24 : decode cX7_valve 24 = .ok (.athrow, 1) := by decide +kernel
theorem dX7_valve_25 : decode cX7_valve 25 = .ok (.aload_n 0, 1) := by decide +kernel
theorem dX7_valve_26 : decode cX7_valve 26 = .ok (.getfield 19, 3) := by decide +kernel
theorem dX7_valve_29 : decode cX7_valve 29 = .ok (.getfield 109, 3) := by decide +kernel
theorem dX7_valve_32 : decode cX7_valve 32 = .ok (.ifCond .eq 13, 3) := by decide +kernel
theorem dX7_valve_35 : decode cX7_valve 35 = .ok (.new 40, 3) := by decide +kernel
theorem dX7_valve_38 : decode cX7_valve 38 = .ok (.dup, 1) := by decide +kernel
theorem dX7_valve_39 : decode cX7_valve 39 = .ok (.ldc 113, 2) := by decide +kernel
theorem dX7_valve_41 : decode cX7_valve 41 = .ok (.invokespecial 44, 3) := by decide +kernel
theorem dX7_valve_44 : decode cX7_valve 44 = .ok (.athrow, 1) := by decide +kernel
theorem dX7_valve_45 : decode cX7_valve 45 = .ok (.aload_n 3, 1) := by decide +kernel
theorem dX7_valve_46 : decode cX7_valve 46 = .ok (.getfield 115, 3) := by decide +kernel
theorem dX7_valve_49 : decode cX7_valve 49 = .ok (.istore 4, 2) := by decide +kernel
theorem dX7_valve_51 : decode cX7_valve 51 = .ok (.aload_n 3, 1) := by decide +kernel
theorem dX7_valve_52 : decode cX7_valve 52 = .ok (.iload_n 2, 1) := by decide +kernel
theorem dX7_valve_53 : decode cX7_valve 53 = .ok (.putfield 115, 3) := by decide +kernel
theorem dX7_valve_56 : decode cX7_valve 56 = .ok (.iload 4, 2) := by decide +kernel
theorem dX7_valve_58 : decode cX7_valve 58 = .ok (.ireturn, 1) := by decide +kernel
theorem dX7_setting_0 : decode cX7_setting 0 = .ok (.aload_n 0, 1) := by decide +kernel
theorem dX7_setting_1 : decode cX7_setting 1 = .ok (.iload_n 1, 1) := by decide +kernel
theorem dX7_setting_2 : decode cX7_setting 2 = .ok (.invokevirtual 54, 3) := by decide +kernel
theorem dX7_setting_5 : decode cX7_setting 5 = .ok (.astore_n 3, 1) := by decide +kernel
theorem dX7_setting_6 : decode cX7_setting 6 = .ok (.iload_n 2, 1) := by decide +kernel
theorem dX7_setting_7 : decode cX7_setting 7 = .ok (.ifCond .lt 9, 3) := by decide +kernel
theorem dX7_setting_10 : decode cX7_setting 10 = .ok (.iload_n 2, 1) := by decide +kernel
theorem dX7_setting_11 : decode cX7_setting 11 = .ok (.bipush 10, 2) := by decide +kernel
theorem dX7_setting_13 : decode cX7_setting 13 = .ok (.if_icmp .le 13, 3) := by decide +kernel
theorem dX7_setting_16 : decode cX7_setting 16 = .ok (.new 26, 3) := by decide +kernel
theorem dX7_setting_19 : decode cX7_setting 19 = .ok (.dup, 1) := by decide +kernel
theorem dX7_setting_20 : decode cX7_setting 20 = .ok (.ldc 120, 2) := by decide +kernel
theorem dX7_setting_22 : decode cX7_setting 22 = .ok (.invokespecial 30, 3) := by decide +kernel
theorem dX7_setting_25 : decode cX7_setting 25 = .ok (.athrow, 1) := by decide +kernel
theorem dX7_setting_26 : decode cX7_setting 26 = .ok (.aload_n 0, 1) := by decide +kernel
theorem dX7_setting_27 : decode cX7_setting 27 = .ok (.getfield 19, 3) := by decide +kernel
theorem dX7_setting_30 : decode cX7_setting 30 = .ok (.getfield 109, 3) := by decide +kernel
theorem dX7_setting_33 : decode cX7_setting 33 = .ok (.ifCond .ne 10, 3) := by decide +kernel
theorem dX7_setting_36 : decode cX7_setting 36 = .ok (.aload_n 3, 1) := by decide +kernel
theorem dX7_setting_37 : decode cX7_setting 37 = .ok (.getfield 122, 3) := by decide +kernel
theorem dX7_setting_40 : decode cX7_setting 40 = .ok (.ifCond .eq 13, 3) := by decide +kernel
theorem dX7_setting_43 : decode cX7_setting 43 = .ok (.new 40, 3) := by decide +kernel
theorem dX7_setting_46 : decode cX7_setting 46 = .ok (.dup, 1) := by decide +kernel
theorem dX7_setting_47 : decode cX7_setting 47 = .ok (.ldc 125, 2) := by decide +kernel
theorem dX7_setting_49 : decode cX7_setting 49 = .ok (.invokespecial 44, 3) := by decide +kernel
theorem dX7_setting_52 : decode cX7_setting 52 = .ok (.athrow, 1) := by decide +kernel
theorem dX7_setting_53 : decode cX7_setting 53 = .ok (.aload_n 3, 1) := by decide +kernel
theorem dX7_setting_54 : decode cX7_setting 54 = .ok (.getfield 127, 3) := by decide +kernel
theorem dX7_setting_57 : decode cX7_setting 57 = .ok (.istore 4, 2) := by decide +kernel
theorem dX7_setting_59 : decode cX7_setting 59 = .ok (.aload_n 3, 1) := by decide +kernel
theorem dX7_setting_60 : decode cX7_setting 60 = .ok (.iload_n 2, 1) := by decide +kernel
theorem dX7_setting_61 : decode cX7_setting 61 = .ok (.invokevirtual 130, 3) := by decide +kernel
theorem dX7_setting_64 : decode cX7_setting 64 = .ok (.iload 4, 2) := by decide +kernel
theorem dX7_setting_66 : decode cX7_setting 66 = .ok (.ireturn, 1) := by decide +kernel
theorem dX7_reset_0 : decode cX7_reset 0 = .ok (.aload_n 0, 1) := by decide +kernel
theorem dX7_reset_1 : decode cX7_reset 1 = .ok (.iload_n 1, 1) := by decide +kernel
theorem dX7_reset_2 : decode cX7_reset 2 = .ok (.invokevirtual 54, 3) := by decide +kernel
theorem dX7_reset_5 : decode cX7_reset 5 = .ok (.astore_n 2, 1) := by decide +kernel
theorem dX7_reset_6 : decode cX7_reset 6 = .ok (.aload_n 2, 1) := by decide +kernel
theorem dX7_reset_7 : decode cX7_reset 7 = .ok (.getfield 122, 3) := by decide +kernel
theorem dX7_reset_10 : decode cX7_reset 10 = .ok (.ifCond .eq 16, 3) := by decide +kernel
theorem dX7_reset_13 : decode cX7_reset 13 = .ok (.aload_n 0, 1) := by decide +kernel
theorem dX7_reset_14 : decode cX7_reset 14 = .ok (.getfield 19, 3) := by decide +kernel
theorem dX7_reset_17 : decode cX7_reset 17 = .ok (.getfield 134, 3) := by decide +kernel
theorem dX7_reset_20 : decode cX7_reset 20 = .ok (.sipush 300, 3) := by decide +kernel
theorem dX7_reset_23 : decode cX7_reset 23 = .ok (.if_icmp .ge 13, 3) := by decide +kernel
theorem dX7_reset_26 : decode cX7_reset 26 = .ok (.new 40, 3) := by decide +kernel
theorem dX7_reset_29 : decode cX7_reset 29 = .ok (.dup, 1) := by decide +kernel
theorem dX7_reset_30 : decode cX7_reset 30 = .ok (.ldc 137, 2) := by decide +kernel
theorem dX7_reset_32 : decode cX7_reset 32 = .ok (.invokespecial 44, 3) := by decide +kernel
theorem dX7_reset_35 : decode cX7_reset 35 = .ok (.athrow, 1) := by decide +kernel
theorem dX7_reset_36 : decode cX7_reset 36 = .ok (.aload_n 2, 1) := by decide +kernel
theorem dX7_reset_37 : decode cX7_reset 37 = .ok (.iconst 0, 1) := by decide +kernel
theorem dX7_reset_38 : decode cX7_reset 38 = .ok (.putfield 122, 3) := by decide +kernel
theorem dX7_reset_41 : decode cX7_reset 41 = .ok (.aload_n 2, 1) := by decide +kernel
theorem dX7_reset_42 : decode cX7_reset 42 = .ok (.getfield 139, 3) := by decide +kernel
theorem dX7_reset_45 : decode cX7_reset 45 = .ok (.ireturn, 1) := by decide +kernel
theorem dX7_lamp_0 : decode cX7_lamp 0 = .ok (.aload_n 0, 1) := by decide +kernel
theorem dX7_lamp_1 : decode cX7_lamp 1 = .ok (.iload_n 1, 1) := by decide +kernel
theorem dX7_lamp_2 : decode cX7_lamp 2 = .ok (.invokevirtual 103, 3) := by decide +kernel
theorem dX7_lamp_5 : decode cX7_lamp 5 = .ok (.astore_n 3, 1) := by decide +kernel
theorem dX7_lamp_6 : decode cX7_lamp 6 = .ok (.aload_n 3, 1) := by decide +kernel
theorem dX7_lamp_7 : decode cX7_lamp 7 = .ok (.getfield 142, 3) := by decide +kernel
theorem dX7_lamp_10 : decode cX7_lamp 10 = .ok (.istore 4, 2) := by decide +kernel
theorem dX7_lamp_12 : decode cX7_lamp 12 = .ok (.aload_n 3, 1) := by decide +kernel
theorem dX7_lamp_13 : decode cX7_lamp 13 = .ok (.iload_n 2, 1) := by decide +kernel
theorem dX7_lamp_14 : decode cX7_lamp 14 = .ok (.putfield 142, 3) := by decide +kernel
theorem dX7_lamp_17 : decode cX7_lamp 17 = .ok (.iload 4, 2) := by decide +kernel
theorem dX7_lamp_19 : decode cX7_lamp 19 = .ok (.ireturn, 1) := by decide +kernel
theorem dX7_fault_0 : decode cX7_fault 0 = .ok (.aload_n 0, 1) := by decide +kernel
theorem dX7_fault_1 : decode cX7_fault 1 = .ok (.iload_n 1, 1) := by decide +kernel
theorem dX7_fault_2 : decode cX7_fault 2 = .ok (.invokevirtual 103, 3) := by decide +kernel
theorem dX7_fault_5 : decode cX7_fault 5 = .ok (.astore 4, 2) := by decide +kernel
theorem dX7_fault_7 : decode cX7_fault 7 = .ok (.aload 4, 2) := by decide +kernel
theorem dX7_fault_9 : decode cX7_fault 9 = .ok (.getfield 145, 3) := by decide +kernel
theorem dX7_fault_12 : decode cX7_fault 12 = .ok (.istore 5, 2) := by decide +kernel
theorem dX7_fault_14 : decode cX7_fault 14 = .ok (.aload 4, 2) := by decide +kernel
theorem dX7_fault_16 : decode cX7_fault 16 = .ok (.iload_n 2, 1) := by decide +kernel
theorem dX7_fault_17 : decode cX7_fault 17 = .ok (.putfield 145, 3) := by decide +kernel
theorem dX7_fault_20 : decode cX7_fault 20 = .ok (.aload 4, 2) := by decide +kernel
theorem dX7_fault_22 : decode cX7_fault 22 = .ok (.iload_n 3, 1) := by decide +kernel
theorem dX7_fault_23 : decode cX7_fault 23 = .ok (.putfield 148, 3) := by decide +kernel
theorem dX7_fault_26 : decode cX7_fault 26 = .ok (.iload 5, 2) := by decide +kernel
theorem dX7_fault_28 : decode cX7_fault 28 = .ok (.ireturn, 1) := by decide +kernel
theorem dX7_swim_0 : decode cX7_swim 0 = .ok (.aload_n 0, 1) := by decide +kernel
theorem dX7_swim_1 : decode cX7_swim 1 = .ok (.getfield 19, 3) := by decide +kernel
theorem dX7_swim_4 : decode cX7_swim 4 = .ok (.getfield 109, 3) := by decide +kernel
theorem dX7_swim_7 : decode cX7_swim 7 = .ok (.istore_n 2, 1) := by decide +kernel
theorem dX7_swim_8 : decode cX7_swim 8 = .ok (.aload_n 0, 1) := by decide +kernel
theorem dX7_swim_9 : decode cX7_swim 9 = .ok (.getfield 19, 3) := by decide +kernel
theorem dX7_swim_12 : decode cX7_swim 12 = .ok (.iload_n 1, 1) := by decide +kernel
theorem dX7_swim_13 : decode cX7_swim 13 = .ok (.putfield 109, 3) := by decide +kernel
theorem dX7_swim_16 : decode cX7_swim 16 = .ok (.iload_n 1, 1) := by decide +kernel
theorem dX7_swim_17 : decode cX7_swim 17 = .ok (.ifCond .eq 10, 3) := by decide +kernel
theorem dX7_swim_20 : decode cX7_swim 20 = .ok (.aload_n 0, 1) := by decide +kernel
theorem dX7_swim_21 : decode cX7_swim 21 = .ok (.getfield 19, 3) := by decide +kernel
theorem dX7_swim_24 : decode cX7_swim 24 = .ok (.invokevirtual 151, 3) := by decide +kernel
theorem dX7_swim_27 : decode cX7_swim 27 = .ok (.iload_n 2, 1) := by decide +kernel
theorem dX7_swim_28 : decode cX7_swim 28 = .ok (.ireturn, 1) := by decide +kernel
theorem dX7_fill_0 : decode cX7_fill 0 = .ok (.iload_n 1, 1) := by decide +kernel
theorem dX7_fill_1 : decode cX7_fill 1 = .ok (.iconst 1, 1) := by decide +kernel
theorem dX7_fill_2 : decode cX7_fill 2 = .ok (.if_icmp .lt 10, 3) := by decide +kernel
theorem dX7_fill_5 : decode cX7_fill 5 = .ok (.iload_n 1, 1) := by decide +kernel
theorem dX7_fill_6 : decode cX7_fill 6 = .ok (.sipush 5000, 3) := by decide +kernel
theorem dX7_fill_9 : decode cX7_fill 9 = .ok (.if_icmp .le 13, 3) := by decide +kernel
theorem dX7_fill_12 : decode cX7_fill 12 = .ok (.new 26, 3) := by decide +kernel
theorem dX7_fill_15 : decode cX7_fill 15 = .ok (.dup, 1) := by decide +kernel
theorem dX7_fill_16 : decode cX7_fill 16 = .ok (.ldc 154, 2) := by decide +kernel
theorem dX7_fill_18 : decode cX7_fill 18 = .ok (.invokespecial 30, 3) := by decide +kernel
theorem dX7_fill_21 : decode cX7_fill 21 = .ok (.athrow, 1) := by decide +kernel
theorem dX7_fill_22 : decode cX7_fill 22 = .ok (.aload_n 0, 1) := by decide +kernel
theorem dX7_fill_23 : decode cX7_fill 23 = .ok (.getfield 19, 3) := by decide +kernel
theorem dX7_fill_26 : decode cX7_fill 26 = .ok (.iload_n 1, 1) := by decide +kernel
theorem dX7_fill_27 : decode cX7_fill 27 = .ok (.invokevirtual 156, 3) := by decide +kernel
theorem dX7_fill_30 : decode cX7_fill 30 = .ok (.aload_n 0, 1) := by decide +kernel
theorem dX7_fill_31 : decode cX7_fill 31 = .ok (.getfield 19, 3) := by decide +kernel
theorem dX7_fill_34 : decode cX7_fill 34 = .ok (.getfield 134, 3) := by decide +kernel
theorem dX7_fill_37 : decode cX7_fill 37 = .ok (.ireturn, 1) := by decide +kernel
theorem dX7_call_0 : decode cX7_call 0 = .ok (.aload_n 0, 1) := by decide +kernel
theorem dX7_call_1 : decode cX7_call 1 = .ok (.iload_n 1, 1) := by decide +kernel
theorem dX7_call_2 : decode cX7_call 2 = .ok (.invokevirtual 74, 3) := by decide +kernel
theorem dX7_call_5 : decode cX7_call 5 = .ok (.astore_n 3, 1) := by decide +kernel
theorem dX7_call_6 : decode cX7_call 6 = .ok (.iload_n 2, 1) := by decide +kernel
theorem dX7_call_7 : decode cX7_call 7 = .ok (.ifCond .lt 9, 3) := by decide +kernel
theorem dX7_call_10 : decode cX7_call 10 = .ok (.iload_n 2, 1) := by decide +kernel
theorem dX7_call_11 : decode cX7_call 11 = .ok (.bipush 9, 2) := by decide +kernel
theorem dX7_call_13 : decode cX7_call 13 = .ok (.if_icmp .le 13, 3) := by decide +kernel
theorem dX7_call_16 : decode cX7_call 16 = .ok (.new 26, 3) := by decide +kernel
theorem dX7_call_19 : decode cX7_call 19 = .ok (.dup, 1) := by decide +kernel
theorem dX7_call_20 : decode cX7_call 20 = .ok (.ldc 159, 2) := by decide +kernel
theorem dX7_call_22 : decode cX7_call 22 = .ok (.invokespecial 30, 3) := by decide +kernel
theorem dX7_call_25 : decode cX7_call 25 = .ok (.athrow, 1) := by decide +kernel
theorem dX7_call_26 : decode cX7_call 26 = .ok (.aload_n 0, 1) := by decide +kernel
theorem dX7_call_27 : decode cX7_call 27 = .ok (.getfield 19, 3) := by decide +kernel
theorem dX7_call_30 : decode cX7_call 30 = .ok (.getfield 161, 3) := by decide +kernel
theorem dX7_call_33 : decode cX7_call 33 = .ok (.invokevirtual 36, 3) := by decide +kernel
theorem dX7_call_36 : decode cX7_call 36 = .ok (.istore 4, 2) := by decide +kernel
theorem dX7_call_38 : decode cX7_call 38 = .ok (.iload 4, 2) := by decide +kernel
theorem dX7_call_40 : decode cX7_call 40 = .ok (.bipush 20, 2) := by decide +kernel
theorem dX7_call_42 : decode cX7_call 42 = .ok (.if_icmp .lt 13, 3) := by decide +kernel
theorem dX7_call_45 : decode cX7_call 45 = .ok (.new 40, 3) := by decide +kernel
theorem dX7_call_48 : decode cX7_call 48 = .ok (.dup, 1) := by decide +kernel
theorem dX7_call_49 : decode cX7_call 49 = .ok (.ldc 164, 2) := by decide +kernel
theorem dX7_call_51 : decode cX7_call 51 = .ok (.invokespecial 44, 3) := by decide +kernel
theorem dX7_call_54 : decode cX7_call 54 = .ok (.athrow, 1) := by decide +kernel
theorem dX7_call_55 : decode cX7_call 55 = .ok (.new 166, 3) := by decide +kernel
theorem dX7_call_58 : decode cX7_call 58 = .ok (.dup, 1) := by decide +kernel
theorem dX7_call_59 : decode cX7_call 59 = .ok (.aload_n 3, 1) := by decide +kernel
theorem dX7_call_60 : decode cX7_call 60 = .ok (.invokevirtual 168, 3) := by decide +kernel
theorem dX7_call_63 : decode cX7_call 63 = .ok (.iload_n 2, 1) := by decide +kernel
theorem dX7_call_64 : decode cX7_call 64 = .ok (.aload_n 0, 1) := by decide +kernel
theorem dX7_call_65 : decode cX7_call 65 = .ok (.getfield 19, 3) := by decide +kernel
theorem dX7_call_68 : decode cX7_call 68 = .ok (.getfield 172, 3) := by decide +kernel
theorem dX7_call_71 : decode cX7_call 71 = .ok (.invokespecial 175, 3) := by decide +kernel
theorem dX7_call_74 : decode cX7_call 74 = .ok (.astore 5, 2) := by decide +kernel
theorem dX7_call_76 : decode cX7_call 76 = .ok (.aload_n 0, 1) := by decide +kernel
theorem dX7_call_77 : decode cX7_call 77 = .ok (.getfield 19, 3) := by decide +kernel
theorem dX7_call_80 : decode cX7_call 80 = .ok (.getfield 161, 3) := by decide +kernel
theorem dX7_call_83 : decode cX7_call 83 = .ok (.aload 5, 2) := by decide +kernel
theorem dX7_call_85 : decode cX7_call 85 = .ok (.invokevirtual 50, 3) := by decide +kernel
theorem dX7_call_88 : decode cX7_call 88 = .ok (.pop, 1) := by decide +kernel
theorem dX7_call_89 : decode cX7_call 89 = .ok (.aload_n 0, 1) := by decide +kernel
theorem dX7_call_90 : decode cX7_call 90 = .ok (.getfield 23, 3) := by decide +kernel
theorem dX7_call_93 : decode cX7_call 93 = .ok (.getfield 161, 3) := by decide +kernel
theorem dX7_call_96 : decode cX7_call 96 = .ok (.aload 5, 2) := by decide +kernel
theorem dX7_call_98 : decode cX7_call 98 = .ok (.invokevirtual 50, 3) := by decide +kernel
theorem dX7_call_101 : decode cX7_call 101 = .ok (.pop, 1) := by decide +kernel
theorem dX7_call_102 : decode cX7_call 102 = .ok (.iload 4, 2) := by decide +kernel
theorem dX7_call_104 : decode cX7_call 104 = .ok (.ireturn, 1) := by decide +kernel
theorem dX7_pass_0 : decode cX7_pass 0 = .ok (.iload_n 1, 1) := by decide +kernel
theorem dX7_pass_1 : decode cX7_pass 1 = .ok (.iconst 1, 1) := by decide +kernel
theorem dX7_pass_2 : decode cX7_pass 2 = .ok (.if_icmp .lt 9, 3) := by decide +kernel
theorem dX7_pass_5 : decode cX7_pass 5 = .ok (.iload_n 1, 1) := by decide +kernel
theorem dX7_pass_6 : decode cX7_pass 6 = .ok (.bipush 100, 2) := by decide +kernel
theorem dX7_pass_8 : decode cX7_pass 8 = .ok (.if_icmp .le 13, 3) := by decide +kernel
theorem dX7_pass_11 : decode cX7_pass 11 = .ok (.new 26, 3) := by decide +kernel
theorem dX7_pass_14 : decode cX7_pass 14 = .ok (.dup, 1) := by decide +kernel
theorem dX7_pass_15 : decode cX7_pass 15 = .ok (.ldc 178, 2) := by decide +kernel
theorem dX7_pass_17 : decode cX7_pass 17 = .ok (.invokespecial 30, 3) := by decide +kernel
theorem dX7_pass_20 : decode cX7_pass 20 = .ok (.athrow, 1) := by decide +kernel
theorem dX7_pass_21 : decode cX7_pass 21 = .ok (.aload_n 0, 1) := by decide +kernel
theorem dX7_pass_22 : decode cX7_pass 22 = .ok (.getfield 19, 3) := by decide +kernel
theorem dX7_pass_25 : decode cX7_pass 25 = .ok (.getfield 172, 3) := by decide +kernel
theorem dX7_pass_28 : decode cX7_pass 28 = .ok (.iload_n 1, 1) := by decide +kernel
theorem dX7_pass_29 : decode cX7_pass 29 = .ok (.iadd, 1) := by decide +kernel
theorem dX7_pass_30 : decode cX7_pass 30 = .ok (.sipush 5000, 3) := by decide +kernel
theorem dX7_pass_33 : decode cX7_pass 33 = .ok (.if_icmp .le 13, 3) := by decide +kernel
theorem dX7_pass_36 : decode cX7_pass 36 = .ok (.new 40, 3) := by decide +kernel
theorem dX7_pass_39 : decode cX7_pass 39 = .ok (.dup, 1) := by decide +kernel
theorem dX7_pass_40 : decode cX7_pass 40 = .ok (.ldc 180, 2) := by decide +kernel
theorem dX7_pass_42 : decode cX7_pass 42 = .ok (.invokespecial 44, 3) := by decide +kernel
theorem dX7_pass_45 : decode cX7_pass 45 = .ok (.athrow, 1) := by decide +kernel
theorem dX7_pass_46 : decode cX7_pass 46 = .ok (.iconst 0, 1) := by decide +kernel
theorem dX7_pass_47 : decode cX7_pass 47 = .ok (.istore_n 2, 1) := by decide +kernel
theorem dX7_pass_48 : decode cX7_pass 48 = .ok (.iconst 0, 1) := by decide +kernel
theorem dX7_pass_49 : decode cX7_pass 49 = .ok (.istore_n 3, 1) := by decide +kernel
theorem dX7_pass_50 : decode cX7_pass 50 = .ok (.iload_n 3, 1) := by decide +kernel
theorem dX7_pass_51 : decode cX7_pass 51 = .ok (.iload_n 1, 1) := by decide +kernel
theorem dX7_pass_52 : decode cX7_pass 52 = .ok (.if_icmp .ge 19, 3) := by decide +kernel
theorem dX7_pass_55 : decode cX7_pass 55 = .ok (.iload_n 2, 1) := by decide +kernel
theorem dX7_pass_56 : decode cX7_pass 56 = .ok (.aload_n 0, 1) := by decide +kernel
theorem dX7_pass_57 : decode cX7_pass 57 = .ok (.getfield 19, 3) := by decide +kernel
theorem dX7_pass_60 : decode cX7_pass 60 = .ok (.invokevirtual 182, 3) := by decide +kernel
theorem dX7_pass_63 : decode cX7_pass 63 = .ok (.iadd, 1) := by decide +kernel
theorem dX7_pass_64 : decode cX7_pass 64 = .ok (.istore_n 2, 1) := by decide +kernel
theorem dX7_pass_65 : decode cX7_pass 65 = .ok (.iinc 3 1, 3) := by decide +kernel
theorem dX7_pass_68 : decode cX7_pass 68 = .ok (.goto (-18), 3) := by decide +kernel
theorem dX7_pass_71 : decode cX7_pass 71 = .ok (.iload_n 2, 1) := by decide +kernel
theorem dX7_pass_72 : decode cX7_pass 72 = .ok (.ireturn, 1) := by decide +kernel
theorem dX7_ofPump_0 : decode cX7_ofPump 0 = .ok (.aload_n 0, 1) := by decide +kernel
theorem dX7_ofPump_1 : decode cX7_ofPump 1 = .ok (.iload_n 1, 1) := by decide +kernel
theorem dX7_ofPump_2 : decode cX7_ofPump 2 = .ok (.invokevirtual 54, 3) := by decide +kernel
theorem dX7_ofPump_5 : decode cX7_ofPump 5 = .ok (.astore_n 3, 1) := by decide +kernel
theorem dX7_ofPump_6 : decode cX7_ofPump 6 = .ok (.iload_n 2, 1) := by decide +kernel
theorem dX7_ofPump_7 : decode cX7_ofPump 7 = .ok (.tableswitch 92 0 6 #[41, 46, 51, 56, 65, 78, 87], 41) := by decide +kernel
theorem dX7_ofPump_48 : decode cX7_ofPump 48 = .ok (.aload_n 3, 1) := by decide +kernel
theorem dX7_ofPump_49 : decode cX7_ofPump 49 = .ok (.getfield 185, 3) := by decide +kernel
theorem dX7_ofPump_52 : decode cX7_ofPump 52 = .ok (.ireturn, 1) := by decide +kernel
theorem dX7_ofPump_53 : decode cX7_ofPump 53 = .ok (.aload_n 3, 1) := by decide +kernel
theorem dX7_ofPump_54 : decode cX7_ofPump 54 = .ok (.getfield 127, 3) := by decide +kernel
theorem dX7_ofPump_57 : decode cX7_ofPump 57 = .ok (.ireturn, 1) := by decide +kernel
theorem dX7_ofPump_58 : decode cX7_ofPump 58 = .ok (.aload_n 3, 1) := by decide +kernel
theorem dX7_ofPump_59 : decode cX7_ofPump 59 = .ok (.getfield 188, 3) := by decide +kernel
theorem dX7_ofPump_62 : decode cX7_ofPump 62 = .ok (.ireturn, 1) := by decide +kernel
theorem dX7_ofPump_63 : decode cX7_ofPump 63 = .ok (.aload_n 0, 1) := by decide +kernel
theorem dX7_ofPump_64 : decode cX7_ofPump 64 = .ok (.getfield 19, 3) := by decide +kernel
theorem dX7_ofPump_67 : decode cX7_ofPump 67 = .ok (.aload_n 3, 1) := by decide +kernel
theorem dX7_ofPump_68 : decode cX7_ofPump 68 = .ok (.invokevirtual 191, 3) := by decide +kernel
theorem dX7_ofPump_71 : decode cX7_ofPump 71 = .ok (.ireturn, 1) := by decide +kernel
theorem dX7_ofPump_72 : decode cX7_ofPump 72 = .ok (.aload_n 3, 1) := by decide +kernel
theorem dX7_ofPump_73 : decode cX7_ofPump 73 = .ok (.getfield 122, 3) := by decide +kernel
theorem dX7_ofPump_76 : decode cX7_ofPump 76 = .ok (.ifCond .eq 7, 3) := by decide +kernel
theorem dX7_ofPump_79 : decode cX7_ofPump 79 = .ok (.iconst 1, 1) := by decide +kernel
theorem dX7_ofPump_80 : decode cX7_ofPump 80 = .ok (.goto 4, 3) := by decide +kernel
theorem dX7_ofPump_83 : decode cX7_ofPump 83 = .ok (.iconst 0, 1) := by decide +kernel
theorem dX7_ofPump_84 : decode cX7_ofPump 84 = .ok (.ireturn, 1) := by decide +kernel
theorem dX7_ofPump_85 : decode cX7_ofPump 85 = .ok (.aload_n 0, 1) := by decide +kernel
theorem dX7_ofPump_86 : decode cX7_ofPump 86 = .ok (.getfield 19, 3) := by decide +kernel
theorem dX7_ofPump_89 : decode cX7_ofPump 89 = .ok (.aload_n 3, 1) := by decide +kernel
theorem dX7_ofPump_90 : decode cX7_ofPump 90 = .ok (.invokevirtual 195, 3) := by decide +kernel
theorem dX7_ofPump_93 : decode cX7_ofPump 93 = .ok (.ireturn, 1) := by decide +kernel
theorem dX7_ofPump_94 : decode cX7_ofPump 94 = .ok (.aload_n 3, 1) := by decide +kernel
theorem dX7_ofPump_95 : decode cX7_ofPump 95 = .ok (.getfield 139, 3) := by decide +kernel
theorem dX7_ofPump_98 : decode cX7_ofPump 98 = .ok (.ireturn, 1) := by decide +kernel
theorem dX7_ofPump_99 : decode cX7_ofPump 99 = .ok (.new 26, 3) := by decide +kernel
theorem dX7_ofPump_102 : decode cX7_ofPump 102 = .ok (.dup, 1) := by decide +kernel
theorem dX7_ofPump_103 : decode cX7_ofPump 103 = .ok (.ldc 198, 2) := by decide +kernel
theorem dX7_ofPump_105 : decode cX7_ofPump 105 = .ok (.invokespecial 30, 3) := by decide +kernel
theorem dX7_ofPump_108 : decode cX7_ofPump 108 = .ok (.athrow, 1) := by decide +kernel
theorem dX7_ofJet_0 : decode cX7_ofJet 0 = .ok (.aload_n 0, 1) := by decide +kernel
theorem dX7_ofJet_1 : decode cX7_ofJet 1 = .ok (.iload_n 1, 1) := by decide +kernel
theorem dX7_ofJet_2 : decode cX7_ofJet 2 = .ok (.invokevirtual 103, 3) := by decide +kernel
theorem dX7_ofJet_5 : decode cX7_ofJet 5 = .ok (.astore_n 3, 1) := by decide +kernel
theorem dX7_ofJet_6 : decode cX7_ofJet 6 = .ok (.iload_n 2, 1) := by decide +kernel
theorem dX7_ofJet_7 : decode cX7_ofJet 7 = .ok (.tableswitch 156 0 11 #[61, 69, 74, 79, 84, 89, 94, 107, 112, 121, 134, 139], 61) := by decide +kernel
theorem dX7_ofJet_68 : decode cX7_ofJet 68 = .ok (.aload_n 3, 1) := by decide +kernel
theorem dX7_ofJet_69 : decode cX7_ofJet 69 = .ok (.getfield 200, 3) := by decide +kernel
theorem dX7_ofJet_72 : decode cX7_ofJet 72 = .ok (.getfield 204, 3) := by decide +kernel
theorem dX7_ofJet_75 : decode cX7_ofJet 75 = .ok (.ireturn, 1) := by decide +kernel
theorem dX7_ofJet_76 : decode cX7_ofJet 76 = .ok (.aload_n 3, 1) := by decide +kernel
theorem dX7_ofJet_77 : decode cX7_ofJet 77 = .ok (.getfield 207, 3) := by decide +kernel
theorem dX7_ofJet_80 : decode cX7_ofJet 80 = .ok (.ireturn, 1) := by decide +kernel
theorem dX7_ofJet_81 : decode cX7_ofJet 81 = .ok (.aload_n 3, 1) := by decide +kernel
theorem dX7_ofJet_82 : decode cX7_ofJet 82 = .ok (.getfield 210, 3) := by decide +kernel
theorem dX7_ofJet_85 : decode cX7_ofJet 85 = .ok (.ireturn, 1) := by decide +kernel
theorem dX7_ofJet_86 : decode cX7_ofJet 86 = .ok (.aload_n 3, 1) := by decide +kernel
theorem dX7_ofJet_87 : decode cX7_ofJet 87 = .ok (.getfield 213, 3) := by decide +kernel
theorem dX7_ofJet_90 : decode cX7_ofJet 90 = .ok (.ireturn, 1) := by decide +kernel
theorem dX7_ofJet_91 : decode cX7_ofJet 91 = .ok (.aload_n 3, 1) := by decide +kernel
theorem dX7_ofJet_92 : decode cX7_ofJet 92 = .ok (.getfield 115, 3) := by decide +kernel
theorem dX7_ofJet_95 : decode cX7_ofJet 95 = .ok (.ireturn, 1) := by decide +kernel
theorem dX7_ofJet_96 : decode cX7_ofJet 96 = .ok (.aload_n 3, 1) := by decide +kernel
theorem dX7_ofJet_97 : decode cX7_ofJet 97 = .ok (.getfield 216, 3) := by decide +kernel
theorem dX7_ofJet_100 : decode cX7_ofJet 100 = .ok (.ireturn, 1) := by decide +kernel
theorem dX7_ofJet_101 : decode cX7_ofJet 101 = .ok (.aload_n 3, 1) := by decide +kernel
theorem dX7_ofJet_102 : decode cX7_ofJet 102 = .ok (.getfield 145, 3) := by decide +kernel
theorem dX7_ofJet_105 : decode cX7_ofJet 105 = .ok (.ifCond .eq 7, 3) := by decide +kernel
theorem dX7_ofJet_108 : decode cX7_ofJet 108 = .ok (.iconst 1, 1) := by decide +kernel
theorem dX7_ofJet_109 : decode cX7_ofJet 109 = .ok (.goto 4, 3) := by decide +kernel
theorem dX7_ofJet_112 : decode cX7_ofJet 112 = .ok (.iconst 0, 1) := by decide +kernel
theorem dX7_ofJet_113 : decode cX7_ofJet 113 = .ok (.ireturn, 1) := by decide +kernel
theorem dX7_ofJet_114 : decode cX7_ofJet 114 = .ok (.aload_n 3, 1) := by decide +kernel
theorem dX7_ofJet_115 : decode cX7_ofJet 115 = .ok (.invokevirtual 219, 3) := by decide +kernel
theorem dX7_ofJet_118 : decode cX7_ofJet 118 = .ok (.ireturn, 1) := by decide +kernel
theorem dX7_ofJet_119 : decode cX7_ofJet 119 = .ok (.aload_n 0, 1) := by decide +kernel
theorem dX7_ofJet_120 : decode cX7_ofJet 120 = .ok (.getfield 19, 3) := by decide +kernel
theorem dX7_ofJet_123 : decode cX7_ofJet 123 = .ok (.aload_n 3, 1) := by decide +kernel
theorem dX7_ofJet_124 : decode cX7_ofJet 124 = .ok (.invokevirtual 222, 3) := by decide +kernel
theorem dX7_ofJet_127 : decode cX7_ofJet 127 = .ok (.ireturn, 1) := by decide +kernel
theorem dX7_ofJet_128 : decode cX7_ofJet 128 = .ok (.aload_n 3, 1) := by decide +kernel
theorem dX7_ofJet_129 : decode cX7_ofJet 129 = .ok (.getfield 142, 3) := by decide +kernel
theorem dX7_ofJet_132 : decode cX7_ofJet 132 = .ok (.ifCond .eq 7, 3) := by decide +kernel
theorem dX7_ofJet_135 : decode cX7_ofJet 135 = .ok (.iconst 1, 1) := by decide +kernel
theorem dX7_ofJet_136 : decode cX7_ofJet 136 = .ok (.goto 4, 3) := by decide +kernel
theorem dX7_ofJet_139 : decode cX7_ofJet 139 = .ok (.iconst 0, 1) := by decide +kernel
theorem dX7_ofJet_140 : decode cX7_ofJet 140 = .ok (.ireturn, 1) := by decide +kernel
theorem dX7_ofJet_141 : decode cX7_ofJet 141 = .ok (.aload_n 3, 1) := by decide +kernel
theorem dX7_ofJet_142 : decode cX7_ofJet 142 = .ok (.getfield 226, 3) := by decide +kernel
theorem dX7_ofJet_145 : decode cX7_ofJet 145 = .ok (.ireturn, 1) := by decide +kernel
theorem dX7_ofJet_146 : decode cX7_ofJet 146 = .ok (.aload_n 0, 1) := by decide +kernel
theorem dX7_ofJet_147 : decode cX7_ofJet 147 = .ok (.getfield 19, 3) := by decide +kernel
theorem dX7_ofJet_150 : decode cX7_ofJet 150 = .ok (.aload_n 3, 1) := by decide +kernel
theorem dX7_ofJet_151 : decode cX7_ofJet 151 = .ok (.aload_n 0, 1) := by decide +kernel
theorem dX7_ofJet_152 : decode cX7_ofJet 152 = .ok (.getfield 19, 3) := by decide +kernel
theorem dX7_ofJet_155 : decode cX7_ofJet 155 = .ok (.aload_n 3, 1) := by decide +kernel
theorem dX7_ofJet_156 : decode cX7_ofJet 156 = .ok (.invokevirtual 222, 3) := by decide +kernel
theorem dX7_ofJet_159 : decode cX7_ofJet 159 = .ok (.invokevirtual 229, 3) := by decide +kernel
theorem dX7_ofJet_162 : decode cX7_ofJet 162 = .ok (.ireturn, 1) := by decide +kernel
theorem dX7_ofJet_163 : decode cX7_ofJet 163 = .ok (.new 26, 3) := by decide +kernel
theorem dX7_ofJet_166 : decode cX7_ofJet 166 = .ok (.dup, 1) := by decide +kernel
theorem dX7_ofJet_167 : decode cX7_ofJet 167 = .ok (.ldc 233, 2) := by decide +kernel
theorem dX7_ofJet_169 : decode cX7_ofJet 169 = .ok (.invokespecial 30, 3) := by decide +kernel
theorem dX7_ofJet_172 : decode cX7_ofJet 172 = .ok (.athrow, 1) := by decide +kernel
theorem dX7_falls_0 : decode cX7_falls 0 = .ok (.iload_n 1, 1) := by decide +kernel
theorem dX7_falls_1 : decode cX7_falls 1 = .ok (.iconst 1, 1) := by decide +kernel
theorem dX7_falls_2 : decode cX7_falls 2 = .ok (.if_icmp .lt 9, 3) := by decide +kernel
theorem dX7_falls_5 : decode cX7_falls 5 = .ok (.iload_n 1, 1) := by decide +kernel
theorem dX7_falls_6 : decode cX7_falls 6 = .ok (.bipush 8, 2) := by decide +kernel
theorem dX7_falls_8 : decode cX7_falls 8 = .ok (.if_icmp .le 13, 3) := by decide +kernel
theorem dX7_falls_11 : decode cX7_falls 11 = .ok (.new 26, 3) := by decide +kernel
theorem dX7_falls_14 : decode cX7_falls 14 = .ok (.dup, 1) := by decide +kernel
theorem dX7_falls_15 : decode cX7_falls 15 = .ok (.ldc 235, 2) := by decide +kernel
theorem dX7_falls_17 : decode cX7_falls 17 = .ok (.invokespecial 30, 3) := by decide +kernel
theorem dX7_falls_20 : decode cX7_falls 20 = .ok (.athrow, 1) := by decide +kernel
theorem dX7_falls_21 : decode cX7_falls 21 = .ok (.aload_n 0, 1) := by decide +kernel
theorem dX7_falls_22 : decode cX7_falls 22 = .ok (.getfield 19, 3) := by decide +kernel
theorem dX7_falls_25 : decode cX7_falls 25 = .ok (.getfield 237, 3) := by decide +kernel
theorem dX7_falls_28 : decode cX7_falls 28 = .ok (.aload_n 0, 1) := by decide +kernel
theorem dX7_falls_29 : decode cX7_falls 29 = .ok (.getfield 19, 3) := by decide +kernel
theorem dX7_falls_32 : decode cX7_falls 32 = .ok (.getfield 172, 3) := by decide +kernel
theorem dX7_falls_35 : decode cX7_falls 35 = .ok (.iload_n 1, 1) := by decide +kernel
theorem dX7_falls_36 : decode cX7_falls 36 = .ok (.iadd, 1) := by decide +kernel
theorem dX7_falls_37 : decode cX7_falls 37 = .ok (.invokevirtual 241, 3) := by decide +kernel
theorem dX7_falls_40 : decode cX7_falls 40 = .ok (.ireturn, 1) := by decide +kernel
theorem dX7_open_0 : decode cX7_open 0 = .ok (.iload_n 1, 1) := by decide +kernel
theorem dX7_open_1 : decode cX7_open 1 = .ok (.ifCond .lt 17, 3) := by decide +kernel
theorem dX7_open_4 : decode cX7_open 4 = .ok (.iload_n 1, 1) := by decide +kernel
theorem dX7_open_5 : decode cX7_open 5 = .ok (.aload_n 0, 1) := by decide +kernel
theorem dX7_open_6 : decode cX7_open 6 = .ok (.getfield 19, 3) := by decide +kernel
theorem dX7_open_9 : decode cX7_open 9 = .ok (.getfield 161, 3) := by decide +kernel
theorem dX7_open_12 : decode cX7_open 12 = .ok (.invokevirtual 36, 3) := by decide +kernel
theorem dX7_open_15 : decode cX7_open 15 = .ok (.if_icmp .lt 13, 3) := by decide +kernel
theorem dX7_open_18 : decode cX7_open 18 = .ok (.new 247, 3) := by decide +kernel
theorem dX7_open_21 : decode cX7_open 21 = .ok (.dup, 1) := by decide +kernel
theorem dX7_open_22 : decode cX7_open 22 = .ok (.ldc 249, 2) := by decide +kernel
theorem dX7_open_24 : decode cX7_open 24 = .ok (.invokespecial 251, 3) := by decide +kernel
theorem dX7_open_27 : decode cX7_open 27 = .ok (.athrow, 1) := by decide +kernel
theorem dX7_open_28 : decode cX7_open 28 = .ok (.aload_n 0, 1) := by decide +kernel
theorem dX7_open_29 : decode cX7_open 29 = .ok (.getfield 19, 3) := by decide +kernel
theorem dX7_open_32 : decode cX7_open 32 = .ok (.getfield 161, 3) := by decide +kernel
theorem dX7_open_35 : decode cX7_open 35 = .ok (.iload_n 1, 1) := by decide +kernel
theorem dX7_open_36 : decode cX7_open 36 = .ok (.invokevirtual 252, 3) := by decide +kernel
theorem dX7_open_39 : decode cX7_open 39 = .ok (.checkcast 166, 3) := by decide +kernel
theorem dX7_open_42 : decode cX7_open 42 = .ok (.aload_n 0, 1) := by decide +kernel
theorem dX7_open_43 : decode cX7_open 43 = .ok (.getfield 19, 3) := by decide +kernel
theorem dX7_open_46 : decode cX7_open 46 = .ok (.getfield 172, 3) := by decide +kernel
theorem dX7_open_49 : decode cX7_open 49 = .ok (.invokevirtual 256, 3) := by decide +kernel
theorem dX7_open_52 : decode cX7_open 52 = .ok (.ireturn, 1) := by decide +kernel
theorem dX7_many_0 : decode cX7_many 0 = .ok (.iload_n 1, 1) := by decide +kernel
theorem dX7_many_1 : decode cX7_many 1 = .ok (.tableswitch 227 0 15 #[79, 87, 98, 109, 117, 128, 136, 147, 155, 163, 171, 179, 187, 195, 203, 211], 79) := by decide +kernel
theorem dX7_many_80 : decode cX7_many 80 = .ok (.aload_n 0, 1) := by decide +kernel
theorem dX7_many_81 : decode cX7_many 81 = .ok (.getfield 19, 3) := by decide +kernel
theorem dX7_many_84 : decode cX7_many 84 = .ok (.getfield 172, 3) := by decide +kernel
theorem dX7_many_87 : decode cX7_many 87 = .ok (.ireturn, 1) := by decide +kernel
theorem dX7_many_88 : decode cX7_many 88 = .ok (.aload_n 0, 1) := by decide +kernel
theorem dX7_many_89 : decode cX7_many 89 = .ok (.getfield 19, 3) := by decide +kernel
theorem dX7_many_92 : decode cX7_many 92 = .ok (.getfield 33, 3) := by decide +kernel
theorem dX7_many_95 : decode cX7_many 95 = .ok (.invokevirtual 36, 3) := by decide +kernel
theorem dX7_many_98 : decode cX7_many 98 = .ok (.ireturn, 1) := by decide +kernel
theorem dX7_many_99 : decode cX7_many 99 = .ok (.aload_n 0, 1) := by decide +kernel
theorem dX7_many_100 : decode cX7_many 100 = .ok (.getfield 19, 3) := by decide +kernel
theorem dX7_many_103 : decode cX7_many 103 = .ok (.getfield 60, 3) := by decide +kernel
theorem dX7_many_106 : decode cX7_many 106 = .ok (.invokevirtual 36, 3) := by decide +kernel
theorem dX7_many_109 : decode cX7_many 109 = .ok (.ireturn, 1) := by decide +kernel
theorem dX7_many_110 : decode cX7_many 110 = .ok (.aload_n 0, 1) := by decide +kernel
theorem dX7_many_111 : decode cX7_many 111 = .ok (.getfield 10, 3) := by decide +kernel
theorem dX7_many_114 : decode cX7_many 114 = .ok (.invokevirtual 36, 3) := by decide +kernel
theorem dX7_many_117 : decode cX7_many 117 = .ok (.ireturn, 1) := by decide +kernel
theorem dX7_many_118 : decode cX7_many 118 = .ok (.aload_n 0, 1) := by decide +kernel
theorem dX7_many_119 : decode cX7_many 119 = .ok (.getfield 19, 3) := by decide +kernel
theorem dX7_many_122 : decode cX7_many 122 = .ok (.getfield 161, 3) := by decide +kernel
theorem dX7_many_125 : decode cX7_many 125 = .ok (.invokevirtual 36, 3) := by decide +kernel
theorem dX7_many_128 : decode cX7_many 128 = .ok (.ireturn, 1) := by decide +kernel
theorem dX7_many_129 : decode cX7_many 129 = .ok (.aload_n 0, 1) := by decide +kernel
theorem dX7_many_130 : decode cX7_many 130 = .ok (.getfield 19, 3) := by decide +kernel
theorem dX7_many_133 : decode cX7_many 133 = .ok (.getfield 134, 3) := by decide +kernel
theorem dX7_many_136 : decode cX7_many 136 = .ok (.ireturn, 1) := by decide +kernel
theorem dX7_many_137 : decode cX7_many 137 = .ok (.aload_n 0, 1) := by decide +kernel
theorem dX7_many_138 : decode cX7_many 138 = .ok (.getfield 19, 3) := by decide +kernel
theorem dX7_many_141 : decode cX7_many 141 = .ok (.getfield 237, 3) := by decide +kernel
theorem dX7_many_144 : decode cX7_many 144 = .ok (.invokevirtual 259, 3) := by decide +kernel
theorem dX7_many_147 : decode cX7_many 147 = .ok (.ireturn, 1) := by decide +kernel
theorem dX7_many_148 : decode cX7_many 148 = .ok (.aload_n 0, 1) := by decide +kernel
theorem dX7_many_149 : decode cX7_many 149 = .ok (.getfield 19, 3) := by decide +kernel
theorem dX7_many_152 : decode cX7_many 152 = .ok (.getfield 262, 3) := by decide +kernel
theorem dX7_many_155 : decode cX7_many 155 = .ok (.ireturn, 1) := by decide +kernel
theorem dX7_many_156 : decode cX7_many 156 = .ok (.aload_n 0, 1) := by decide +kernel
theorem dX7_many_157 : decode cX7_many 157 = .ok (.getfield 19, 3) := by decide +kernel
theorem dX7_many_160 : decode cX7_many 160 = .ok (.getfield 265, 3) := by decide +kernel
theorem dX7_many_163 : decode cX7_many 163 = .ok (.ireturn, 1) := by decide +kernel
theorem dX7_many_164 : decode cX7_many 164 = .ok (.aload_n 0, 1) := by decide +kernel
theorem dX7_many_165 : decode cX7_many 165 = .ok (.getfield 19, 3) := by decide +kernel
theorem dX7_many_168 : decode cX7_many 168 = .ok (.getfield 268, 3) := by decide +kernel
theorem dX7_many_171 : decode cX7_many 171 = .ok (.ireturn, 1) := by decide +kernel
theorem dX7_many_172 : decode cX7_many 172 = .ok (.aload_n 0, 1) := by decide +kernel
theorem dX7_many_173 : decode cX7_many 173 = .ok (.getfield 19, 3) := by decide +kernel
theorem dX7_many_176 : decode cX7_many 176 = .ok (.getfield 271, 3) := by decide +kernel
theorem dX7_many_179 : decode cX7_many 179 = .ok (.ireturn, 1) := by decide +kernel
theorem dX7_many_180 : decode cX7_many 180 = .ok (.aload_n 0, 1) := by decide +kernel
theorem dX7_many_181 : decode cX7_many 181 = .ok (.getfield 19, 3) := by decide +kernel
theorem dX7_many_184 : decode cX7_many 184 = .ok (.getfield 274, 3) := by decide +kernel
theorem dX7_many_187 : decode cX7_many 187 = .ok (.ireturn, 1) := by decide +kernel
theorem dX7_many_188 : decode cX7_many 188 = .ok (.aload_n 0, 1) := by decide +kernel
theorem dX7_many_189 : decode cX7_many 189 = .ok (.getfield 19, 3) := by decide +kernel
theorem dX7_many_192 : decode cX7_many 192 = .ok (.getfield 277, 3) := by decide +kernel
theorem dX7_many_195 : decode cX7_many 195 = .ok (.ireturn, 1) := by decide +kernel
theorem dX7_many_196 : decode cX7_many 196 = .ok (.aload_n 0, 1) := by decide +kernel
theorem dX7_many_197 : decode cX7_many 197 = .ok (.getfield 19, 3) := by decide +kernel
theorem dX7_many_200 : decode cX7_many 200 = .ok (.invokevirtual 280, 3) := by decide +kernel
theorem dX7_many_203 : decode cX7_many 203 = .ok (.ireturn, 1) := by decide +kernel
theorem dX7_many_204 : decode cX7_many 204 = .ok (.aload_n 0, 1) := by decide +kernel
theorem dX7_many_205 : decode cX7_many 205 = .ok (.getfield 19, 3) := by decide +kernel
theorem dX7_many_208 : decode cX7_many 208 = .ok (.invokevirtual 283, 3) := by decide +kernel
theorem dX7_many_211 : decode cX7_many 211 = .ok (.ireturn, 1) := by decide +kernel
theorem dX7_many_212 : decode cX7_many 212 = .ok (.aload_n 0, 1) := by decide +kernel
theorem dX7_many_213 : decode cX7_many 213 = .ok (.getfield 19, 3) := by decide +kernel
theorem dX7_many_216 : decode cX7_many 216 = .ok (.getfield 109, 3) := by decide +kernel
theorem dX7_many_219 : decode cX7_many 219 = .ok (.ifCond .eq 7, 3) := by decide +kernel
theorem dX7_many_222 : decode cX7_many 222 = .ok (.iconst 1, 1) := by decide +kernel
theorem dX7_many_223 : decode cX7_many 223 = .ok (.goto 4, 3) := by decide +kernel
theorem dX7_many_226 : decode cX7_many 226 = .ok (.iconst 0, 1) := by decide +kernel
theorem dX7_many_227 : decode cX7_many 227 = .ok (.ireturn, 1) := by decide +kernel
theorem dX7_many_228 : decode cX7_many 228 = .ok (.new 26, 3) := by decide +kernel
theorem dX7_many_231 : decode cX7_many 231 = .ok (.dup, 1) := by decide +kernel
theorem dX7_many_232 : decode cX7_many 232 = .ok (.ldc_w 286, 3) := by decide +kernel
theorem dX7_many_235 : decode cX7_many 235 = .ok (.invokespecial 30, 3) := by decide +kernel
theorem dX7_many_238 : decode cX7_many 238 = .ok (.athrow, 1) := by decide +kernel
theorem dX7_meanHeight_0 : decode cX7_meanHeight 0 = .ok (.aload_n 0, 1) := by decide +kernel
theorem dX7_meanHeight_1 : decode cX7_meanHeight 1 = .ok (.getfield 19, 3) := by decide +kernel
theorem dX7_meanHeight_4 : decode cX7_meanHeight 4 = .ok (.getfield 60, 3) := by decide +kernel
theorem dX7_meanHeight_7 : decode cX7_meanHeight 7 = .ok (.invokevirtual 36, 3) := by decide +kernel
theorem dX7_meanHeight_10 : decode cX7_meanHeight 10 = .ok (.istore_n 1, 1) := by decide +kernel
theorem dX7_meanHeight_11 : decode cX7_meanHeight 11 = .ok (.iload_n 1, 1) := by decide +kernel
theorem dX7_meanHeight_12 : decode cX7_meanHeight 12 = .ok (.ifCond .ne 5, 3) := by decide +kernel
theorem dX7_meanHeight_15 : decode cX7_meanHeight 15 = .ok (.dconst 0, 1) := by decide +kernel
theorem dX7_meanHeight_16 : decode cX7_meanHeight 16 = .ok (.dreturn, 1) := by decide +kernel
theorem dX7_meanHeight_17 : decode cX7_meanHeight 17 = .ok (.aload_n 0, 1) := by decide +kernel
theorem dX7_meanHeight_18 : decode cX7_meanHeight 18 = .ok (.getfield 19, 3) := by decide +kernel
theorem dX7_meanHeight_21 : decode cX7_meanHeight 21 = .ok (.invokevirtual 288, 3) := by decide +kernel
theorem dX7_meanHeight_24 : decode cX7_meanHeight 24 = .ok (.i2d, 1) := by decide +kernel
theorem dX7_meanHeight_25 : decode cX7_meanHeight 25 = .ok (.iload_n 1, 1) := by decide +kernel
theorem dX7_meanHeight_26 : decode cX7_meanHeight 26 = .ok (.i2d, 1) := by decide +kernel
theorem dX7_meanHeight_27 : decode cX7_meanHeight 27 = .ok (.ddiv, 1) := by decide +kernel
theorem dX7_meanHeight_28 : decode cX7_meanHeight 28 = .ok (.dreturn, 1) := by decide +kernel
theorem dX7_heightIn_0 : decode cX7_heightIn 0 = .ok (.aload_n 0, 1) := by decide +kernel
theorem dX7_heightIn_1 : decode cX7_heightIn 1 = .ok (.iload_n 1, 1) := by decide +kernel
theorem dX7_heightIn_2 : decode cX7_heightIn 2 = .ok (.invokevirtual 103, 3) := by decide +kernel
theorem dX7_heightIn_5 : decode cX7_heightIn 5 = .ok (.pop, 1) := by decide +kernel
theorem dX7_heightIn_6 : decode cX7_heightIn 6 = .ok (.iload_n 2, 1) := by decide +kernel
theorem dX7_heightIn_7 : decode cX7_heightIn 7 = .ok (.iconst 1, 1) := by decide +kernel
theorem dX7_heightIn_8 : decode cX7_heightIn 8 = .ok (.if_icmp .lt 9, 3) := by decide +kernel
theorem dX7_heightIn_11 : decode cX7_heightIn 11 = .ok (.iload_n 2, 1) := by decide +kernel
theorem dX7_heightIn_12 : decode cX7_heightIn 12 = .ok (.bipush 40, 2) := by decide +kernel
theorem dX7_heightIn_14 : decode cX7_heightIn 14 = .ok (.if_icmp .le 14, 3) := by decide +kernel
theorem dX7_heightIn_17 : decode cX7_heightIn 17 = .ok (.new 26, 3) := by decide +kernel
theorem dX7_heightIn_20 : decode cX7_heightIn 20 = .ok (.dup, 1) := by decide +kernel
theorem dX7_heightIn_21 : decode cX7_heightIn 21 = .ok (.ldc_w 291, 3) := by decide +kernel
theorem dX7_heightIn_24 : decode cX7_heightIn 24 = .ok (.invokespecial 30, 3) := by decide +kernel
theorem dX7_heightIn_27 : decode cX7_heightIn 27 = .ok (.athrow, 1) := by decide +kernel
theorem dX7_heightIn_28 : decode cX7_heightIn 28 = .ok (.aload_n 0, 1) := by decide +kernel
theorem dX7_heightIn_29 : decode cX7_heightIn 29 = .ok (.getfield 23, 3) := by decide +kernel
theorem dX7_heightIn_32 : decode cX7_heightIn 32 = .ok (.aload_n 0, 1) := by decide +kernel
theorem dX7_heightIn_33 : decode cX7_heightIn 33 = .ok (.getfield 19, 3) := by decide +kernel
theorem dX7_heightIn_36 : decode cX7_heightIn 36 = .ok (.invokevirtual 293, 3) := by decide +kernel
theorem dX7_heightIn_39 : decode cX7_heightIn 39 = .ok (.iconst 0, 1) := by decide +kernel
theorem dX7_heightIn_40 : decode cX7_heightIn 40 = .ok (.istore_n 3, 1) := by decide +kernel
theorem dX7_heightIn_41 : decode cX7_heightIn 41 = .ok (.iload_n 3, 1) := by decide +kernel
theorem dX7_heightIn_42 : decode cX7_heightIn 42 = .ok (.iload_n 2, 1) := by decide +kernel
theorem dX7_heightIn_43 : decode cX7_heightIn 43 = .ok (.if_icmp .ge 17, 3) := by decide +kernel
theorem dX7_heightIn_46 : decode cX7_heightIn 46 = .ok (.aload_n 0, 1) := by decide +kernel
theorem dX7_heightIn_47 : decode cX7_heightIn 47 = .ok (.getfield 23, 3) := by decide +kernel
theorem dX7_heightIn_50 : decode cX7_heightIn 50 = .ok (.invokevirtual 182, 3) := by decide +kernel
theorem dX7_heightIn_53 : decode cX7_heightIn 53 = .ok (.pop, 1) := by decide +kernel
theorem dX7_heightIn_54 : decode cX7_heightIn 54 = .ok (.iinc 3 1, 3) := by decide +kernel
theorem dX7_heightIn_57 : decode cX7_heightIn 57 = .ok (.goto (-16), 3) := by decide +kernel
theorem dX7_heightIn_60 : decode cX7_heightIn 60 = .ok (.aload_n 0, 1) := by decide +kernel
theorem dX7_heightIn_61 : decode cX7_heightIn 61 = .ok (.getfield 23, 3) := by decide +kernel
theorem dX7_heightIn_64 : decode cX7_heightIn 64 = .ok (.iload_n 1, 1) := by decide +kernel
theorem dX7_heightIn_65 : decode cX7_heightIn 65 = .ok (.invokevirtual 297, 3) := by decide +kernel
theorem dX7_heightIn_68 : decode cX7_heightIn 68 = .ok (.ireturn, 1) := by decide +kernel
theorem dX7_settingFor_0 : decode cX7_settingFor 0 = .ok (.aload_n 0, 1) := by decide +kernel
theorem dX7_settingFor_1 : decode cX7_settingFor 1 = .ok (.iload_n 1, 1) := by decide +kernel
theorem dX7_settingFor_2 : decode cX7_settingFor 2 = .ok (.invokevirtual 103, 3) := by decide +kernel
theorem dX7_settingFor_5 : decode cX7_settingFor 5 = .ok (.astore_n 3, 1) := by decide +kernel
theorem dX7_settingFor_6 : decode cX7_settingFor 6 = .ok (.iload_n 2, 1) := by decide +kernel
theorem dX7_settingFor_7 : decode cX7_settingFor 7 = .ok (.iconst 1, 1) := by decide +kernel
theorem dX7_settingFor_8 : decode cX7_settingFor 8 = .ok (.if_icmp .lt 9, 3) := by decide +kernel
theorem dX7_settingFor_11 : decode cX7_settingFor 11 = .ok (.iload_n 2, 1) := by decide +kernel
theorem dX7_settingFor_12 : decode cX7_settingFor 12 = .ok (.bipush 60, 2) := by decide +kernel
theorem dX7_settingFor_14 : decode cX7_settingFor 14 = .ok (.if_icmp .le 14, 3) := by decide +kernel
theorem dX7_settingFor_17 : decode cX7_settingFor 17 = .ok (.new 26, 3) := by decide +kernel
theorem dX7_settingFor_20 : decode cX7_settingFor 20 = .ok (.dup, 1) := by decide +kernel
theorem dX7_settingFor_21 : decode cX7_settingFor 21 = .ok (.ldc_w 300, 3) := by decide +kernel
theorem dX7_settingFor_24 : decode cX7_settingFor 24 = .ok (.invokespecial 30, 3) := by decide +kernel
theorem dX7_settingFor_27 : decode cX7_settingFor 27 = .ok (.athrow, 1) := by decide +kernel
theorem dX7_settingFor_28 : decode cX7_settingFor 28 = .ok (.aload_n 0, 1) := by decide +kernel
theorem dX7_settingFor_29 : decode cX7_settingFor 29 = .ok (.getfield 19, 3) := by decide +kernel
theorem dX7_settingFor_32 : decode cX7_settingFor 32 = .ok (.aload_n 3, 1) := by decide +kernel
theorem dX7_settingFor_33 : decode cX7_settingFor 33 = .ok (.getfield 200, 3) := by decide +kernel
theorem dX7_settingFor_36 : decode cX7_settingFor 36 = .ok (.invokevirtual 302, 3) := by decide +kernel
theorem dX7_settingFor_39 : decode cX7_settingFor 39 = .ok (.istore 4, 2) := by decide +kernel
theorem dX7_settingFor_41 : decode cX7_settingFor 41 = .ok (.iconst 0, 1) := by decide +kernel
theorem dX7_settingFor_42 : decode cX7_settingFor 42 = .ok (.istore 5, 2) := by decide +kernel
theorem dX7_settingFor_44 : decode cX7_settingFor 44 = .ok (.iload 5, 2) := by decide +kernel
theorem dX7_settingFor_46 : decode cX7_settingFor 46 = .ok (.bipush 10, 2) := by decide +kernel
theorem dX7_settingFor_48 : decode cX7_settingFor 48 = .ok (.if_icmp .gt 41, 3) := by decide +kernel
theorem dX7_settingFor_51 : decode cX7_settingFor 51 = .ok (.iload 5, 2) := by decide +kernel
theorem dX7_settingFor_53 : decode cX7_settingFor 53 = .ok (.aload_n 3, 1) := by decide +kernel
theorem dX7_settingFor_54 : decode cX7_settingFor 54 = .ok (.getfield 200, 3) := by decide +kernel
theorem dX7_settingFor_57 : decode cX7_settingFor 57 = .ok (.getfield 185, 3) := by decide +kernel
theorem dX7_settingFor_60 : decode cX7_settingFor 60 = .ok (.iload 4, 2) := by decide +kernel
theorem dX7_settingFor_62 : decode cX7_settingFor 62 = .ok (.invokestatic 305, 3) := by decide +kernel
theorem dX7_settingFor_65 : decode cX7_settingFor 65 = .ok (.istore 6, 2) := by decide +kernel
theorem dX7_settingFor_67 : decode cX7_settingFor 67 = .ok (.iload 6, 2) := by decide +kernel
theorem dX7_settingFor_69 : decode cX7_settingFor 69 = .ok (.aload_n 3, 1) := by decide +kernel
theorem dX7_settingFor_70 : decode cX7_settingFor 70 = .ok (.getfield 115, 3) := by decide +kernel
theorem dX7_settingFor_73 : decode cX7_settingFor 73 = .ok (.invokestatic 309, 3) := by decide +kernel
theorem dX7_settingFor_76 : decode cX7_settingFor 76 = .ok (.iload_n 2, 1) := by decide +kernel
theorem dX7_settingFor_77 : decode cX7_settingFor 77 = .ok (.if_icmp .lt 6, 3) := by decide +kernel
theorem dX7_settingFor_80 : decode cX7_settingFor 80 = .ok (.iload 5, 2) := by decide +kernel
theorem dX7_settingFor_82 : decode cX7_settingFor 82 = .ok (.ireturn, 1) := by decide +kernel
theorem dX7_settingFor_83 : decode cX7_settingFor 83 = .ok (.iinc 5 1, 3) := by decide +kernel
theorem dX7_settingFor_86 : decode cX7_settingFor 86 = .ok (.goto (-42), 3) := by decide +kernel
theorem dX7_settingFor_89 : decode cX7_settingFor 89 = .ok (.iconst (-1), 1) := by decide +kernel
theorem dX7_settingFor_90 : decode cX7_settingFor 90 = .ok (.ireturn, 1) := by decide +kernel
theorem dX7_leadFor_0 : decode cX7_leadFor 0 = .ok (.aload_n 0, 1) := by decide +kernel
theorem dX7_leadFor_1 : decode cX7_leadFor 1 = .ok (.iload_n 1, 1) := by decide +kernel
theorem dX7_leadFor_2 : decode cX7_leadFor 2 = .ok (.invokevirtual 103, 3) := by decide +kernel
theorem dX7_leadFor_5 : decode cX7_leadFor 5 = .ok (.getfield 200, 3) := by decide +kernel
theorem dX7_leadFor_8 : decode cX7_leadFor 8 = .ok (.astore_n 3, 1) := by decide +kernel
theorem dX7_leadFor_9 : decode cX7_leadFor 9 = .ok (.aload_n 0, 1) := by decide +kernel
theorem dX7_leadFor_10 : decode cX7_leadFor 10 = .ok (.iload_n 1, 1) := by decide +kernel
theorem dX7_leadFor_11 : decode cX7_leadFor 11 = .ok (.iload_n 2, 1) := by decide +kernel
theorem dX7_leadFor_12 : decode cX7_leadFor 12 = .ok (.invokevirtual 313, 3) := by decide +kernel
theorem dX7_leadFor_15 : decode cX7_leadFor 15 = .ok (.istore 4, 2) := by decide +kernel
theorem dX7_leadFor_17 : decode cX7_leadFor 17 = .ok (.iload 4, 2) := by decide +kernel
theorem dX7_leadFor_19 : decode cX7_leadFor 19 = .ok (.iconst (-1), 1) := by decide +kernel
theorem dX7_leadFor_20 : decode cX7_leadFor 20 = .ok (.if_icmp .eq 10, 3) := by decide +kernel
theorem dX7_leadFor_23 : decode cX7_leadFor 23 = .ok (.aload_n 3, 1) := by decide +kernel
theorem dX7_leadFor_24 : decode cX7_leadFor 24 = .ok (.getfield 122, 3) := by decide +kernel
theorem dX7_leadFor_27 : decode cX7_leadFor 27 = .ok (.ifCond .eq 5, 3) := by decide +kernel
theorem dX7_leadFor_30 : decode cX7_leadFor 30 = .ok (.iconst (-1), 1) := by decide +kernel
theorem dX7_leadFor_31 : decode cX7_leadFor 31 = .ok (.ireturn, 1) := by decide +kernel
theorem dX7_leadFor_32 : decode cX7_leadFor 32 = .ok (.aload_n 0, 1) := by decide +kernel
theorem dX7_leadFor_33 : decode cX7_leadFor 33 = .ok (.getfield 23, 3) := by decide +kernel
theorem dX7_leadFor_36 : decode cX7_leadFor 36 = .ok (.aload_n 0, 1) := by decide +kernel
theorem dX7_leadFor_37 : decode cX7_leadFor 37 = .ok (.getfield 19, 3) := by decide +kernel
theorem dX7_leadFor_40 : decode cX7_leadFor 40 = .ok (.invokevirtual 293, 3) := by decide +kernel
theorem dX7_leadFor_43 : decode cX7_leadFor 43 = .ok (.aload_n 0, 1) := by decide +kernel
theorem dX7_leadFor_44 : decode cX7_leadFor 44 = .ok (.getfield 23, 3) := by decide +kernel
theorem dX7_leadFor_47 : decode cX7_leadFor 47 = .ok (.aload_n 3, 1) := by decide +kernel
theorem dX7_leadFor_48 : decode cX7_leadFor 48 = .ok (.getfield 204, 3) := by decide +kernel
theorem dX7_leadFor_51 : decode cX7_leadFor 51 = .ok (.iload 4, 2) := by decide +kernel
theorem dX7_leadFor_53 : decode cX7_leadFor 53 = .ok (.invokevirtual 316, 3) := by decide +kernel
theorem dX7_leadFor_56 : decode cX7_leadFor 56 = .ok (.iconst 0, 1) := by decide +kernel
theorem dX7_leadFor_57 : decode cX7_leadFor 57 = .ok (.istore 5, 2) := by decide +kernel
theorem dX7_leadFor_59 : decode cX7_leadFor 59 = .ok (.iload 5, 2) := by decide +kernel
theorem dX7_leadFor_61 : decode cX7_leadFor 61 = .ok (.bipush 30, 2) := by decide +kernel
theorem dX7_leadFor_63 : decode cX7_leadFor 63 = .ok (.if_icmp .gt 32, 3) := by decide +kernel
theorem dX7_leadFor_66 : decode cX7_leadFor 66 = .ok (.aload_n 0, 1) := by decide +kernel
theorem dX7_leadFor_67 : decode cX7_leadFor 67 = .ok (.getfield 23, 3) := by decide +kernel
theorem dX7_leadFor_70 : decode cX7_leadFor 70 = .ok (.iload_n 1, 1) := by decide +kernel
theorem dX7_leadFor_71 : decode cX7_leadFor 71 = .ok (.invokevirtual 297, 3) := by decide +kernel
theorem dX7_leadFor_74 : decode cX7_leadFor 74 = .ok (.iload_n 2, 1) := by decide +kernel
theorem dX7_leadFor_75 : decode cX7_leadFor 75 = .ok (.if_icmp .lt 6, 3) := by decide +kernel
theorem dX7_leadFor_78 : decode cX7_leadFor 78 = .ok (.iload 5, 2) := by decide +kernel
theorem dX7_leadFor_80 : decode cX7_leadFor 80 = .ok (.ireturn, 1) := by decide +kernel
theorem dX7_leadFor_81 : decode cX7_leadFor 81 = .ok (.aload_n 0, 1) := by decide +kernel
theorem dX7_leadFor_82 : decode cX7_leadFor 82 = .ok (.getfield 23, 3) := by decide +kernel
theorem dX7_leadFor_85 : decode cX7_leadFor 85 = .ok (.invokevirtual 182, 3) := by decide +kernel
theorem dX7_leadFor_88 : decode cX7_leadFor 88 = .ok (.pop, 1) := by decide +kernel
theorem dX7_leadFor_89 : decode cX7_leadFor 89 = .ok (.iinc 5 1, 3) := by decide +kernel
theorem dX7_leadFor_92 : decode cX7_leadFor 92 = .ok (.goto (-33), 3) := by decide +kernel
theorem dX7_leadFor_95 : decode cX7_leadFor 95 = .ok (.iconst (-1), 1) := by decide +kernel
theorem dX7_leadFor_96 : decode cX7_leadFor 96 = .ok (.ireturn, 1) := by decide +kernel
theorem dX7_would_0 : decode cX7_would 0 = .ok (.iload_n 1, 1) := by decide +kernel
theorem dX7_would_1 : decode cX7_would 1 = .ok (.iconst 1, 1) := by decide +kernel
theorem dX7_would_2 : decode cX7_would 2 = .ok (.if_icmp .lt 18, 3) := by decide +kernel
theorem dX7_would_5 : decode cX7_would 5 = .ok (.iload_n 1, 1) := by decide +kernel
theorem dX7_would_6 : decode cX7_would 6 = .ok (.bipush 60, 2) := by decide +kernel
theorem dX7_would_8 : decode cX7_would 8 = .ok (.if_icmp .gt 12, 3) := by decide +kernel
theorem dX7_would_11 : decode cX7_would 11 = .ok (.iload_n 2, 1) := by decide +kernel
theorem dX7_would_12 : decode cX7_would 12 = .ok (.ifCond .lt 8, 3) := by decide +kernel
theorem dX7_would_15 : decode cX7_would 15 = .ok (.iload_n 2, 1) := by decide +kernel
theorem dX7_would_16 : decode cX7_would 16 = .ok (.iconst 1, 1) := by decide +kernel
theorem dX7_would_17 : decode cX7_would 17 = .ok (.if_icmp .le 14, 3) := by decide +kernel
theorem dX7_would_20 : decode cX7_would 20 = .ok (.new 26, 3) := by decide +kernel
theorem dX7_would_23 : decode cX7_would 23 = .ok (.dup, 1) := by decide +kernel
theorem dX7_would_24 : decode cX7_would 24 = .ok (.ldc_w 319, 3) := by decide +kernel
theorem dX7_would_27 : decode cX7_would 27 = .ok (.invokespecial 30, 3) := by decide +kernel
theorem dX7_would_30 : decode cX7_would 30 = .ok (.athrow, 1) := by decide +kernel
theorem dX7_would_31 : decode cX7_would 31 = .ok (.aload_n 0, 1) := by decide +kernel
theorem dX7_would_32 : decode cX7_would 32 = .ok (.getfield 23, 3) := by decide +kernel
theorem dX7_would_35 : decode cX7_would 35 = .ok (.aload_n 0, 1) := by decide +kernel
theorem dX7_would_36 : decode cX7_would 36 = .ok (.getfield 19, 3) := by decide +kernel
theorem dX7_would_39 : decode cX7_would 39 = .ok (.invokevirtual 293, 3) := by decide +kernel
theorem dX7_would_42 : decode cX7_would 42 = .ok (.sipush 9000, 3) := by decide +kernel
theorem dX7_would_45 : decode cX7_would 45 = .ok (.istore_n 3, 1) := by decide +kernel
theorem dX7_would_46 : decode cX7_would 46 = .ok (.iconst 0, 1) := by decide +kernel
theorem dX7_would_47 : decode cX7_would 47 = .ok (.istore 4, 2) := by decide +kernel
theorem dX7_would_49 : decode cX7_would 49 = .ok (.iload 4, 2) := by decide +kernel
theorem dX7_would_51 : decode cX7_would 51 = .ok (.iload_n 1, 1) := by decide +kernel
theorem dX7_would_52 : decode cX7_would 52 = .ok (.if_icmp .ge 29, 3) := by decide +kernel
theorem dX7_would_55 : decode cX7_would 55 = .ok (.aload_n 0, 1) := by decide +kernel
theorem dX7_would_56 : decode cX7_would 56 = .ok (.getfield 23, 3) := by decide +kernel
theorem dX7_would_59 : decode cX7_would 59 = .ok (.invokevirtual 182, 3) := by decide +kernel
theorem dX7_would_62 : decode cX7_would 62 = .ok (.pop, 1) := by decide +kernel
theorem dX7_would_63 : decode cX7_would 63 = .ok (.iload_n 3, 1) := by decide +kernel
theorem dX7_would_64 : decode cX7_would 64 = .ok (.aload_n 0, 1) := by decide +kernel
theorem dX7_would_65 : decode cX7_would 65 = .ok (.getfield 23, 3) := by decide +kernel
theorem dX7_would_68 : decode cX7_would 68 = .ok (.getfield 134, 3) := by decide +kernel
theorem dX7_would_71 : decode cX7_would 71 = .ok (.invokestatic 321, 3) := by decide +kernel
theorem dX7_would_74 : decode cX7_would 74 = .ok (.istore_n 3, 1) := by decide +kernel
theorem dX7_would_75 : decode cX7_would 75 = .ok (.iinc 4 1, 3) := by decide +kernel
theorem dX7_would_78 : decode cX7_would 78 = .ok (.goto (-29), 3) := by decide +kernel
theorem dX7_would_81 : decode cX7_would 81 = .ok (.iload_n 2, 1) := by decide +kernel
theorem dX7_would_82 : decode cX7_would 82 = .ok (.ifCond .ne 21, 3) := by decide +kernel
theorem dX7_would_85 : decode cX7_would 85 = .ok (.aload_n 0, 1) := by decide +kernel
theorem dX7_would_86 : decode cX7_would 86 = .ok (.getfield 23, 3) := by decide +kernel
theorem dX7_would_89 : decode cX7_would 89 = .ok (.getfield 268, 3) := by decide +kernel
theorem dX7_would_92 : decode cX7_would 92 = .ok (.aload_n 0, 1) := by decide +kernel
theorem dX7_would_93 : decode cX7_would 93 = .ok (.getfield 19, 3) := by decide +kernel
theorem dX7_would_96 : decode cX7_would 96 = .ok (.getfield 268, 3) := by decide +kernel
theorem dX7_would_99 : decode cX7_would 99 = .ok (.isub, 1) := by decide +kernel
theorem dX7_would_100 : decode cX7_would 100 = .ok (.goto 4, 3) := by decide +kernel
theorem dX7_would_103 : decode cX7_would 103 = .ok (.iload_n 3, 1) := by decide +kernel
theorem dX7_would_104 : decode cX7_would 104 = .ok (.ireturn, 1) := by decide +kernel
theorem dX7_digest_0 : decode cX7_digest 0 = .ok (.ldc2_w 326, 3) := by decide +kernel
theorem dX7_digest_3 : decode cX7_digest 3 = .ok (.lstore_n 1, 1) := by decide +kernel
theorem dX7_digest_4 : decode cX7_digest 4 = .ok (.iconst 0, 1) := by decide +kernel
theorem dX7_digest_5 : decode cX7_digest 5 = .ok (.istore_n 3, 1) := by decide +kernel
theorem dX7_digest_6 : decode cX7_digest 6 = .ok (.iload_n 3, 1) := by decide +kernel
theorem dX7_digest_7 : decode cX7_digest 7 = .ok (.bipush 15, 2) := by decide +kernel
theorem dX7_digest_9 : decode cX7_digest 9 = .ok (.if_icmp .gt 22, 3) := by decide +kernel
theorem dX7_digest_12 : decode cX7_digest 12 = .ok (.lload_n 1, 1) := by decide +kernel
theorem dX7_digest_13 : decode cX7_digest 13 = .ok (.ldc2_w 328, 3) := by decide +kernel
theorem dX7_digest_16 : decode cX7_digest 16 = .ok (.lmul, 1) := by decide +kernel
theorem dX7_digest_17 : decode cX7_digest 17 = .ok (.aload_n 0, 1) := by decide +kernel
theorem dX7_digest_18 : decode cX7_digest 18 = .ok (.iload_n 3, 1) := by decide +kernel
theorem dX7_digest_19 : decode cX7_digest 19 = .ok (.invokevirtual 330, 3) := by decide +kernel
theorem dX7_digest_22 : decode cX7_digest 22 = .ok (.i2l, 1) := by decide +kernel
theorem dX7_digest_23 : decode cX7_digest 23 = .ok (.ladd, 1) := by decide +kernel
theorem dX7_digest_24 : decode cX7_digest 24 = .ok (.lstore_n 1, 1) := by decide +kernel
theorem dX7_digest_25 : decode cX7_digest 25 = .ok (.iinc 3 1, 3) := by decide +kernel
theorem dX7_digest_28 : decode cX7_digest 28 = .ok (.goto (-22), 3) := by decide +kernel
theorem dX7_digest_31 : decode cX7_digest 31 = .ok (.iconst 0, 1) := by decide +kernel
theorem dX7_digest_32 : decode cX7_digest 32 = .ok (.istore_n 3, 1) := by decide +kernel
theorem dX7_digest_33 : decode cX7_digest 33 = .ok (.iload_n 3, 1) := by decide +kernel
theorem dX7_digest_34 : decode cX7_digest 34 = .ok (.aload_n 0, 1) := by decide +kernel
theorem dX7_digest_35 : decode cX7_digest 35 = .ok (.getfield 19, 3) := by decide +kernel
theorem dX7_digest_38 : decode cX7_digest 38 = .ok (.getfield 33, 3) := by decide +kernel
theorem dX7_digest_41 : decode cX7_digest 41 = .ok (.invokevirtual 36, 3) := by decide +kernel
theorem dX7_digest_44 : decode cX7_digest 44 = .ok (.if_icmp .ge 40, 3) := by decide +kernel
theorem dX7_digest_47 : decode cX7_digest 47 = .ok (.iconst 0, 1) := by decide +kernel
theorem dX7_digest_48 : decode cX7_digest 48 = .ok (.istore 4, 2) := by decide +kernel
theorem dX7_digest_50 : decode cX7_digest 50 = .ok (.iload 4, 2) := by decide +kernel
theorem dX7_digest_52 : decode cX7_digest 52 = .ok (.bipush 6, 2) := by decide +kernel
theorem dX7_digest_54 : decode cX7_digest 54 = .ok (.if_icmp .gt 24, 3) := by decide +kernel
theorem dX7_digest_57 : decode cX7_digest 57 = .ok (.lload_n 1, 1) := by decide +kernel
theorem dX7_digest_58 : decode cX7_digest 58 = .ok (.ldc2_w 328, 3) := by decide +kernel
theorem dX7_digest_61 : decode cX7_digest 61 = .ok (.lmul, 1) := by decide +kernel
theorem dX7_digest_62 : decode cX7_digest 62 = .ok (.aload_n 0, 1) := by decide +kernel
theorem dX7_digest_63 : decode cX7_digest 63 = .ok (.iload_n 3, 1) := by decide +kernel
theorem dX7_digest_64 : decode cX7_digest 64 = .ok (.iload 4, 2) := by decide +kernel
theorem dX7_digest_66 : decode cX7_digest 66 = .ok (.invokevirtual 333, 3) := by decide +kernel
theorem dX7_digest_69 : decode cX7_digest 69 = .ok (.i2l, 1) := by decide +kernel
theorem dX7_digest_70 : decode cX7_digest 70 = .ok (.ladd, 1) := by decide +kernel
theorem dX7_digest_71 : decode cX7_digest 71 = .ok (.lstore_n 1, 1) := by decide +kernel
theorem dX7_digest_72 : decode cX7_digest 72 = .ok (.iinc 4 1, 3) := by decide +kernel
theorem dX7_digest_75 : decode cX7_digest 75 = .ok (.goto (-25), 3) := by decide +kernel
theorem dX7_digest_78 : decode cX7_digest 78 = .ok (.iinc 3 1, 3) := by decide +kernel
theorem dX7_digest_81 : decode cX7_digest 81 = .ok (.goto (-48), 3) := by decide +kernel
theorem dX7_digest_84 : decode cX7_digest 84 = .ok (.iconst 0, 1) := by decide +kernel
theorem dX7_digest_85 : decode cX7_digest 85 = .ok (.istore_n 3, 1) := by decide +kernel
theorem dX7_digest_86 : decode cX7_digest 86 = .ok (.iload_n 3, 1) := by decide +kernel
theorem dX7_digest_87 : decode cX7_digest 87 = .ok (.aload_n 0, 1) := by decide +kernel
theorem dX7_digest_88 : decode cX7_digest 88 = .ok (.getfield 19, 3) := by decide +kernel
theorem dX7_digest_91 : decode cX7_digest 91 = .ok (.getfield 60, 3) := by decide +kernel
theorem dX7_digest_94 : decode cX7_digest 94 = .ok (.invokevirtual 36, 3) := by decide +kernel
theorem dX7_digest_97 : decode cX7_digest 97 = .ok (.if_icmp .ge 84, 3) := by decide +kernel
theorem dX7_digest_100 : decode cX7_digest 100 = .ok (.iconst 0, 1) := by decide +kernel
theorem dX7_digest_101 : decode cX7_digest 101 = .ok (.istore 4, 2) := by decide +kernel
theorem dX7_digest_103 : decode cX7_digest 103 = .ok (.iload 4, 2) := by decide +kernel
theorem dX7_digest_105 : decode cX7_digest 105 = .ok (.bipush 11, 2) := by decide +kernel
theorem dX7_digest_107 : decode cX7_digest 107 = .ok (.if_icmp .gt 24, 3) := by decide +kernel
theorem dX7_digest_110 : decode cX7_digest 110 = .ok (.lload_n 1, 1) := by decide +kernel
theorem dX7_digest_111 : decode cX7_digest 111 = .ok (.ldc2_w 328, 3) := by decide +kernel
theorem dX7_digest_114 : decode cX7_digest 114 = .ok (.lmul, 1) := by decide +kernel
theorem dX7_digest_115 : decode cX7_digest 115 = .ok (.aload_n 0, 1) := by decide +kernel
theorem dX7_digest_116 : decode cX7_digest 116 = .ok (.iload_n 3, 1) := by decide +kernel
theorem dX7_digest_117 : decode cX7_digest 117 = .ok (.iload 4, 2) := by decide +kernel
theorem dX7_digest_119 : decode cX7_digest 119 = .ok (.invokevirtual 336, 3) := by decide +kernel
theorem dX7_digest_122 : decode cX7_digest 122 = .ok (.i2l, 1) := by decide +kernel
theorem dX7_digest_123 : decode cX7_digest 123 = .ok (.ladd, 1) := by decide +kernel
theorem dX7_digest_124 : decode cX7_digest 124 = .ok (.lstore_n 1, 1) := by decide +kernel
theorem dX7_digest_125 : decode cX7_digest 125 = .ok (.iinc 4 1, 3) := by decide +kernel
theorem dX7_digest_128 : decode cX7_digest 128 = .ok (.goto (-25), 3) := by decide +kernel
theorem dX7_digest_131 : decode cX7_digest 131 = .ok (.lload_n 1, 1) := by decide +kernel
theorem dX7_digest_132 : decode cX7_digest 132 = .ok (.ldc2_w 328, 3) := by decide +kernel
theorem dX7_digest_135 : decode cX7_digest 135 = .ok (.lmul, 1) := by decide +kernel
theorem dX7_digest_136 : decode cX7_digest 136 = .ok (.aload_n 0, 1) := by decide +kernel
theorem dX7_digest_137 : decode cX7_digest 137 = .ok (.iload_n 3, 1) := by decide +kernel
theorem dX7_digest_138 : decode cX7_digest 138 = .ok (.iconst 5, 1) := by decide +kernel
theorem dX7_digest_139 : decode cX7_digest 139 = .ok (.invokevirtual 339, 3) := by decide +kernel
theorem dX7_digest_142 : decode cX7_digest 142 = .ok (.i2l, 1) := by decide +kernel
theorem dX7_digest_143 : decode cX7_digest 143 = .ok (.ladd, 1) := by decide +kernel
theorem dX7_digest_144 : decode cX7_digest 144 = .ok (.lstore_n 1, 1) := by decide +kernel
theorem dX7_digest_145 : decode cX7_digest 145 = .ok (.lload_n 1, 1) := by decide +kernel
theorem dX7_digest_146 : decode cX7_digest 146 = .ok (.ldc2_w 328, 3) := by decide +kernel
theorem dX7_digest_149 : decode cX7_digest 149 = .ok (.lmul, 1) := by decide +kernel
theorem dX7_digest_150 : decode cX7_digest 150 = .ok (.aload_n 0, 1) := by decide +kernel
theorem dX7_digest_151 : decode cX7_digest 151 = .ok (.iload_n 3, 1) := by decide +kernel
theorem dX7_digest_152 : decode cX7_digest 152 = .ok (.bipush 20, 2) := by decide +kernel
theorem dX7_digest_154 : decode cX7_digest 154 = .ok (.invokevirtual 313, 3) := by decide +kernel
theorem dX7_digest_157 : decode cX7_digest 157 = .ok (.i2l, 1) := by decide +kernel
theorem dX7_digest_158 : decode cX7_digest 158 = .ok (.ladd, 1) := by decide +kernel
theorem dX7_digest_159 : decode cX7_digest 159 = .ok (.lstore_n 1, 1) := by decide +kernel
theorem dX7_digest_160 : decode cX7_digest 160 = .ok (.lload_n 1, 1) := by decide +kernel
theorem dX7_digest_161 : decode cX7_digest 161 = .ok (.ldc2_w 328, 3) := by decide +kernel
theorem dX7_digest_164 : decode cX7_digest 164 = .ok (.lmul, 1) := by decide +kernel
theorem dX7_digest_165 : decode cX7_digest 165 = .ok (.aload_n 0, 1) := by decide +kernel
theorem dX7_digest_166 : decode cX7_digest 166 = .ok (.iload_n 3, 1) := by decide +kernel
theorem dX7_digest_167 : decode cX7_digest 167 = .ok (.bipush 20, 2) := by decide +kernel
theorem dX7_digest_169 : decode cX7_digest 169 = .ok (.invokevirtual 342, 3) := by decide +kernel
theorem dX7_digest_172 : decode cX7_digest 172 = .ok (.i2l, 1) := by decide +kernel
theorem dX7_digest_173 : decode cX7_digest 173 = .ok (.ladd, 1) := by decide +kernel
theorem dX7_digest_174 : decode cX7_digest 174 = .ok (.lstore_n 1, 1) := by decide +kernel
theorem dX7_digest_175 : decode cX7_digest 175 = .ok (.iinc 3 1, 3) := by decide +kernel
theorem dX7_digest_178 : decode cX7_digest 178 = .ok (.goto (-92), 3) := by decide +kernel
theorem dX7_digest_181 : decode cX7_digest 181 = .ok (.iconst 1, 1) := by decide +kernel
theorem dX7_digest_182 : decode cX7_digest 182 = .ok (.istore_n 3, 1) := by decide +kernel
theorem dX7_digest_183 : decode cX7_digest 183 = .ok (.iload_n 3, 1) := by decide +kernel
theorem dX7_digest_184 : decode cX7_digest 184 = .ok (.bipush 8, 2) := by decide +kernel
theorem dX7_digest_186 : decode cX7_digest 186 = .ok (.if_icmp .gt 22, 3) := by decide +kernel
theorem dX7_digest_189 : decode cX7_digest 189 = .ok (.lload_n 1, 1) := by decide +kernel
theorem dX7_digest_190 : decode cX7_digest 190 = .ok (.ldc2_w 328, 3) := by decide +kernel
theorem dX7_digest_193 : decode cX7_digest 193 = .ok (.lmul, 1) := by decide +kernel
theorem dX7_digest_194 : decode cX7_digest 194 = .ok (.aload_n 0, 1) := by decide +kernel
theorem dX7_digest_195 : decode cX7_digest 195 = .ok (.iload_n 3, 1) := by decide +kernel
theorem dX7_digest_196 : decode cX7_digest 196 = .ok (.invokevirtual 345, 3) := by decide +kernel
theorem dX7_digest_199 : decode cX7_digest 199 = .ok (.i2l, 1) := by decide +kernel
theorem dX7_digest_200 : decode cX7_digest 200 = .ok (.ladd, 1) := by decide +kernel
theorem dX7_digest_201 : decode cX7_digest 201 = .ok (.lstore_n 1, 1) := by decide +kernel
theorem dX7_digest_202 : decode cX7_digest 202 = .ok (.iinc 3 1, 3) := by decide +kernel
theorem dX7_digest_205 : decode cX7_digest 205 = .ok (.goto (-22), 3) := by decide +kernel
theorem dX7_digest_208 : decode cX7_digest 208 = .ok (.iconst 0, 1) := by decide +kernel
theorem dX7_digest_209 : decode cX7_digest 209 = .ok (.istore_n 3, 1) := by decide +kernel
theorem dX7_digest_210 : decode cX7_digest 210 = .ok (.iload_n 3, 1) := by decide +kernel
theorem dX7_digest_211 : decode cX7_digest 211 = .ok (.aload_n 0, 1) := by decide +kernel
theorem dX7_digest_212 : decode cX7_digest 212 = .ok (.getfield 19, 3) := by decide +kernel
theorem dX7_digest_215 : decode cX7_digest 215 = .ok (.getfield 161, 3) := by decide +kernel
theorem dX7_digest_218 : decode cX7_digest 218 = .ok (.invokevirtual 36, 3) := by decide +kernel
theorem dX7_digest_221 : decode cX7_digest 221 = .ok (.if_icmp .ge 22, 3) := by decide +kernel
theorem dX7_digest_224 : decode cX7_digest 224 = .ok (.lload_n 1, 1) := by decide +kernel
theorem dX7_digest_225 : decode cX7_digest 225 = .ok (.ldc2_w 328, 3) := by decide +kernel
theorem dX7_digest_228 : decode cX7_digest 228 = .ok (.lmul, 1) := by decide +kernel
theorem dX7_digest_229 : decode cX7_digest 229 = .ok (.aload_n 0, 1) := by decide +kernel
theorem dX7_digest_230 : decode cX7_digest 230 = .ok (.iload_n 3, 1) := by decide +kernel
theorem dX7_digest_231 : decode cX7_digest 231 = .ok (.invokevirtual 348, 3) := by decide +kernel
theorem dX7_digest_234 : decode cX7_digest 234 = .ok (.i2l, 1) := by decide +kernel
theorem dX7_digest_235 : decode cX7_digest 235 = .ok (.ladd, 1) := by decide +kernel
theorem dX7_digest_236 : decode cX7_digest 236 = .ok (.lstore_n 1, 1) := by decide +kernel
theorem dX7_digest_237 : decode cX7_digest 237 = .ok (.iinc 3 1, 3) := by decide +kernel
theorem dX7_digest_240 : decode cX7_digest 240 = .ok (.goto (-30), 3) := by decide +kernel
theorem dX7_digest_243 : decode cX7_digest 243 = .ok (.lload_n 1, 1) := by decide +kernel
theorem dX7_digest_244 : decode cX7_digest 244 = .ok (.ldc2_w 328, 3) := by decide +kernel
theorem dX7_digest_247 : decode cX7_digest 247 = .ok (.lmul, 1) := by decide +kernel
theorem dX7_digest_248 : decode cX7_digest 248 = .ok (.aload_n 0, 1) := by decide +kernel
theorem dX7_digest_249 : decode cX7_digest 249 = .ok (.bipush 12, 2) := by decide +kernel
theorem dX7_digest_251 : decode cX7_digest 251 = .ok (.iconst 0, 1) := by decide +kernel
theorem dX7_digest_252 : decode cX7_digest 252 = .ok (.invokevirtual 351, 3) := by decide +kernel
theorem dX7_digest_255 : decode cX7_digest 255 = .ok (.i2l, 1) := by decide +kernel
theorem dX7_digest_256 : decode cX7_digest 256 = .ok (.ladd, 1) := by decide +kernel
theorem dX7_digest_257 : decode cX7_digest 257 = .ok (.lstore_n 1, 1) := by decide +kernel
theorem dX7_digest_258 : decode cX7_digest 258 = .ok (.lload_n 1, 1) := by decide +kernel
theorem dX7_digest_259 : decode cX7_digest 259 = .ok (.ldc2_w 328, 3) := by decide +kernel
theorem dX7_digest_262 : decode cX7_digest 262 = .ok (.lmul, 1) := by decide +kernel
theorem dX7_digest_263 : decode cX7_digest 263 = .ok (.aload_n 0, 1) := by decide +kernel
theorem dX7_digest_264 : decode cX7_digest 264 = .ok (.bipush 12, 2) := by decide +kernel
theorem dX7_digest_266 : decode cX7_digest 266 = .ok (.iconst 1, 1) := by decide +kernel
theorem dX7_digest_267 : decode cX7_digest 267 = .ok (.invokevirtual 351, 3) := by decide +kernel
theorem dX7_digest_270 : decode cX7_digest 270 = .ok (.i2l, 1) := by decide +kernel
theorem dX7_digest_271 : decode cX7_digest 271 = .ok (.ladd, 1) := by decide +kernel
theorem dX7_digest_272 : decode cX7_digest 272 = .ok (.lstore_n 1, 1) := by decide +kernel
theorem dX7_digest_273 : decode cX7_digest 273 = .ok (.lload_n 1, 1) := by decide +kernel
theorem dX7_digest_274 : decode cX7_digest 274 = .ok (.lreturn, 1) := by decide +kernel
theorem dX7_pumpNumbered_0 : decode cX7_pumpNumbered 0 = .ok (.iload_n 1, 1) := by decide +kernel
theorem dX7_pumpNumbered_1 : decode cX7_pumpNumbered 1 = .ok (.ifCond .lt 17, 3) := by decide +kernel
theorem dX7_pumpNumbered_4 : decode cX7_pumpNumbered 4 = .ok (.iload_n 1, 1) := by decide +kernel
theorem dX7_pumpNumbered_5 : decode cX7_pumpNumbered 5 = .ok (.aload_n 0, 1) := by decide +kernel
theorem dX7_pumpNumbered_6 : decode cX7_pumpNumbered 6 = .ok (.getfield 19, 3) := by decide +kernel
theorem dX7_pumpNumbered_9 : decode cX7_pumpNumbered 9 = .ok (.getfield 33, 3) := by decide +kernel
theorem dX7_pumpNumbered_12 : decode cX7_pumpNumbered 12 = .ok (.invokevirtual 36, 3) := by decide +kernel
theorem dX7_pumpNumbered_15 : decode cX7_pumpNumbered 15 = .ok (.if_icmp .lt 14, 3) := by decide +kernel
theorem dX7_pumpNumbered_18 : decode cX7_pumpNumbered 18 = .ok (.new 247, 3) := by decide +kernel
theorem dX7_pumpNumbered_21 : decode cX7_pumpNumbered 21 = .ok (.dup, 1) := by decide +kernel
theorem dX7_pumpNumbered_22 : decode cX7_pumpNumbered 22 = .ok (.ldc_w 354, 3) := by decide +kernel
theorem dX7_pumpNumbered_25 : decode cX7_pumpNumbered 25 = .ok (.invokespecial 251, 3) := by decide +kernel
theorem dX7_pumpNumbered_28 : decode cX7_pumpNumbered 28 = .ok (.athrow, 1) := by decide +kernel
theorem dX7_pumpNumbered_29 : decode cX7_pumpNumbered 29 = .ok (.aload_n 0, 1) := by decide +kernel
theorem dX7_pumpNumbered_30 : decode cX7_pumpNumbered 30 = .ok (.getfield 19, 3) := by decide +kernel
theorem dX7_pumpNumbered_33 : decode cX7_pumpNumbered 33 = .ok (.getfield 33, 3) := by decide +kernel
theorem dX7_pumpNumbered_36 : decode cX7_pumpNumbered 36 = .ok (.iload_n 1, 1) := by decide +kernel
theorem dX7_pumpNumbered_37 : decode cX7_pumpNumbered 37 = .ok (.invokevirtual 252, 3) := by decide +kernel
theorem dX7_pumpNumbered_40 : decode cX7_pumpNumbered 40 = .ok (.checkcast 45, 3) := by decide +kernel
theorem dX7_pumpNumbered_43 : decode cX7_pumpNumbered 43 = .ok (.areturn, 1) := by decide +kernel
theorem dX7_jetNumbered_0 : decode cX7_jetNumbered 0 = .ok (.iload_n 1, 1) := by decide +kernel
theorem dX7_jetNumbered_1 : decode cX7_jetNumbered 1 = .ok (.ifCond .lt 17, 3) := by decide +kernel
theorem dX7_jetNumbered_4 : decode cX7_jetNumbered 4 = .ok (.iload_n 1, 1) := by decide +kernel
theorem dX7_jetNumbered_5 : decode cX7_jetNumbered 5 = .ok (.aload_n 0, 1) := by decide +kernel
theorem dX7_jetNumbered_6 : decode cX7_jetNumbered 6 = .ok (.getfield 19, 3) := by decide +kernel
theorem dX7_jetNumbered_9 : decode cX7_jetNumbered 9 = .ok (.getfield 60, 3) := by decide +kernel
theorem dX7_jetNumbered_12 : decode cX7_jetNumbered 12 = .ok (.invokevirtual 36, 3) := by decide +kernel
theorem dX7_jetNumbered_15 : decode cX7_jetNumbered 15 = .ok (.if_icmp .lt 14, 3) := by decide +kernel
theorem dX7_jetNumbered_18 : decode cX7_jetNumbered 18 = .ok (.new 247, 3) := by decide +kernel
theorem dX7_jetNumbered_21 : decode cX7_jetNumbered 21 = .ok (.dup, 1) := by decide +kernel
theorem dX7_jetNumbered_22 : decode cX7_jetNumbered 22 = .ok (.ldc_w 356, 3) := by decide +kernel
theorem dX7_jetNumbered_25 : decode cX7_jetNumbered 25 = .ok (.invokespecial 251, 3) := by decide +kernel
theorem dX7_jetNumbered_28 : decode cX7_jetNumbered 28 = .ok (.athrow, 1) := by decide +kernel
theorem dX7_jetNumbered_29 : decode cX7_jetNumbered 29 = .ok (.aload_n 0, 1) := by decide +kernel
theorem dX7_jetNumbered_30 : decode cX7_jetNumbered 30 = .ok (.getfield 19, 3) := by decide +kernel
theorem dX7_jetNumbered_33 : decode cX7_jetNumbered 33 = .ok (.getfield 60, 3) := by decide +kernel
theorem dX7_jetNumbered_36 : decode cX7_jetNumbered 36 = .ok (.iload_n 1, 1) := by decide +kernel
theorem dX7_jetNumbered_37 : decode cX7_jetNumbered 37 = .ok (.invokevirtual 252, 3) := by decide +kernel
theorem dX7_jetNumbered_40 : decode cX7_jetNumbered 40 = .ok (.checkcast 116, 3) := by decide +kernel
theorem dX7_jetNumbered_43 : decode cX7_jetNumbered 43 = .ok (.areturn, 1) := by decide +kernel
theorem dX7_figureNumbered_0 : decode cX7_figureNumbered 0 = .ok (.iload_n 1, 1) := by decide +kernel
theorem dX7_figureNumbered_1 : decode cX7_figureNumbered 1 = .ok (.ifCond .lt 14, 3) := by decide +kernel
theorem dX7_figureNumbered_4 : decode cX7_figureNumbered 4 = .ok (.iload_n 1, 1) := by decide +kernel
theorem dX7_figureNumbered_5 : decode cX7_figureNumbered 5 = .ok (.aload_n 0, 1) := by decide +kernel
theorem dX7_figureNumbered_6 : decode cX7_figureNumbered 6 = .ok (.getfield 10, 3) := by decide +kernel
theorem dX7_figureNumbered_9 : decode cX7_figureNumbered 9 = .ok (.invokevirtual 36, 3) := by decide +kernel
theorem dX7_figureNumbered_12 : decode cX7_figureNumbered 12 = .ok (.if_icmp .lt 14, 3) := by decide +kernel
theorem dX7_figureNumbered_15 : decode cX7_figureNumbered 15 = .ok (.new 247, 3) := by decide +kernel
theorem dX7_figureNumbered_18 : decode cX7_figureNumbered 18 = .ok (.dup, 1) := by decide +kernel
theorem dX7_figureNumbered_19 : decode cX7_figureNumbered 19 = .ok (.ldc_w 358, 3) := by decide +kernel
theorem dX7_figureNumbered_22 : decode cX7_figureNumbered 22 = .ok (.invokespecial 251, 3) := by decide +kernel
theorem dX7_figureNumbered_25 : decode cX7_figureNumbered 25 = .ok (.athrow, 1) := by decide +kernel
theorem dX7_figureNumbered_26 : decode cX7_figureNumbered 26 = .ok (.aload_n 0, 1) := by decide +kernel
theorem dX7_figureNumbered_27 : decode cX7_figureNumbered 27 = .ok (.getfield 10, 3) := by decide +kernel
theorem dX7_figureNumbered_30 : decode cX7_figureNumbered 30 = .ok (.iload_n 1, 1) := by decide +kernel
theorem dX7_figureNumbered_31 : decode cX7_figureNumbered 31 = .ok (.invokevirtual 252, 3) := by decide +kernel
theorem dX7_figureNumbered_34 : decode cX7_figureNumbered 34 = .ok (.checkcast 71, 3) := by decide +kernel
theorem dX7_figureNumbered_37 : decode cX7_figureNumbered 37 = .ok (.areturn, 1) := by decide +kernel
theorem dX7_isValue_0 : decode cX7_isValue 0 = .ok (.iload_n 0, 1) := by decide +kernel
theorem dX7_isValue_1 : decode cX7_isValue 1 = .ok (.ifCond .lt 9, 3) := by decide +kernel
theorem dX7_isValue_4 : decode cX7_isValue 4 = .ok (.iload_n 0, 1) := by decide +kernel
theorem dX7_isValue_5 : decode cX7_isValue 5 = .ok (.bipush 6, 2) := by decide +kernel
theorem dX7_isValue_7 : decode cX7_isValue 7 = .ok (.if_icmp .le 15, 3) := by decide +kernel
theorem dX7_isValue_10 : decode cX7_isValue 10 = .ok (.iload_n 0, 1) := by decide +kernel
theorem dX7_isValue_11 : decode cX7_isValue 11 = .ok (.bipush 10, 2) := by decide +kernel
theorem dX7_isValue_13 : decode cX7_isValue 13 = .ok (.if_icmp .lt 13, 3) := by decide +kernel
theorem dX7_isValue_16 : decode cX7_isValue 16 = .ok (.iload_n 0, 1) := by decide +kernel
theorem dX7_isValue_17 : decode cX7_isValue 17 = .ok (.bipush 20, 2) := by decide +kernel
theorem dX7_isValue_19 : decode cX7_isValue 19 = .ok (.if_icmp .gt 7, 3) := by decide +kernel
theorem dX7_isValue_22 : decode cX7_isValue 22 = .ok (.iconst 1, 1) := by decide +kernel
theorem dX7_isValue_23 : decode cX7_isValue 23 = .ok (.goto 4, 3) := by decide +kernel
theorem dX7_isValue_26 : decode cX7_isValue 26 = .ok (.iconst 0, 1) := by decide +kernel
theorem dX7_isValue_27 : decode cX7_isValue 27 = .ok (.ireturn, 1) := by decide +kernel
theorem dX7_pressureBy_0 : decode cX7_pressureBy 0 = .ok (.bipush 20, 2) := by decide +kernel
theorem dX7_pressureBy_2 : decode cX7_pressureBy 2 = .ok (.iload_n 2, 1) := by decide +kernel
theorem dX7_pressureBy_3 : decode cX7_pressureBy 3 = .ok (.iadd, 1) := by decide +kernel
theorem dX7_pressureBy_4 : decode cX7_pressureBy 4 = .ok (.istore_n 3, 1) := by decide +kernel
theorem dX7_pressureBy_5 : decode cX7_pressureBy 5 = .ok (.iload_n 3, 1) := by decide +kernel
theorem dX7_pressureBy_6 : decode cX7_pressureBy 6 = .ok (.ifCond .le 14, 3) := by decide +kernel
theorem dX7_pressureBy_9 : decode cX7_pressureBy 9 = .ok (.bipush 10, 2) := by decide +kernel
theorem dX7_pressureBy_11 : decode cX7_pressureBy 11 = .ok (.iload_n 0, 1) := by decide +kernel
theorem dX7_pressureBy_12 : decode cX7_pressureBy 12 = .ok (.imul, 1) := by decide +kernel
theorem dX7_pressureBy_13 : decode cX7_pressureBy 13 = .ok (.iload_n 1, 1) := by decide +kernel
theorem dX7_pressureBy_14 : decode cX7_pressureBy 14 = .ok (.imul, 1) := by decide +kernel
theorem dX7_pressureBy_15 : decode cX7_pressureBy 15 = .ok (.iload_n 3, 1) := by decide +kernel
theorem dX7_pressureBy_16 : decode cX7_pressureBy 16 = .ok (.idiv, 1) := by decide +kernel
theorem dX7_pressureBy_17 : decode cX7_pressureBy 17 = .ok (.goto 4, 3) := by decide +kernel
theorem dX7_pressureBy_20 : decode cX7_pressureBy 20 = .ok (.iconst 0, 1) := by decide +kernel
theorem dX7_pressureBy_21 : decode cX7_pressureBy 21 = .ok (.ireturn, 1) := by decide +kernel
theorem dX7_heightBy_0 : decode cX7_heightBy 0 = .ok (.bipush 60, 2) := by decide +kernel
theorem dX7_heightBy_2 : decode cX7_heightBy 2 = .ok (.iload_n 0, 1) := by decide +kernel
theorem dX7_heightBy_3 : decode cX7_heightBy 3 = .ok (.iload_n 1, 1) := by decide +kernel
theorem dX7_heightBy_4 : decode cX7_heightBy 4 = .ok (.imul, 1) := by decide +kernel
theorem dX7_heightBy_5 : decode cX7_heightBy 5 = .ok (.iconst 4, 1) := by decide +kernel
theorem dX7_heightBy_6 : decode cX7_heightBy 6 = .ok (.idiv, 1) := by decide +kernel
theorem dX7_heightBy_7 : decode cX7_heightBy 7 = .ok (.invokestatic 321, 3) := by decide +kernel
theorem dX7_heightBy_10 : decode cX7_heightBy 10 = .ok (.ireturn, 1) := by decide +kernel
theorem dX7_airTime_0 : decode cX7_airTime 0 = .ok (.iconst 2, 1) := by decide +kernel
theorem dX7_airTime_1 : decode cX7_airTime 1 = .ok (.iload_n 0, 1) := by decide +kernel
theorem dX7_airTime_2 : decode cX7_airTime 2 = .ok (.bipush 10, 2) := by decide +kernel
theorem dX7_airTime_4 : decode cX7_airTime 4 = .ok (.idiv, 1) := by decide +kernel
theorem dX7_airTime_5 : decode cX7_airTime 5 = .ok (.iadd, 1) := by decide +kernel
theorem dX7_airTime_6 : decode cX7_airTime 6 = .ok (.ireturn, 1) := by decide +kernel
theorem dX7_nearer_0 : decode cX7_nearer 0 = .ok (.iload_n 0, 1) := by decide +kernel
theorem dX7_nearer_1 : decode cX7_nearer 1 = .ok (.iload_n 1, 1) := by decide +kernel
theorem dX7_nearer_2 : decode cX7_nearer 2 = .ok (.if_icmp .ge 9, 3) := by decide +kernel
theorem dX7_nearer_5 : decode cX7_nearer 5 = .ok (.iload_n 0, 1) := by decide +kernel
theorem dX7_nearer_6 : decode cX7_nearer 6 = .ok (.iconst 1, 1) := by decide +kernel
theorem dX7_nearer_7 : decode cX7_nearer 7 = .ok (.iadd, 1) := by decide +kernel
theorem dX7_nearer_8 : decode cX7_nearer 8 = .ok (.goto 15, 3) := by decide +kernel
theorem dX7_nearer_11 : decode cX7_nearer 11 = .ok (.iload_n 0, 1) := by decide +kernel
theorem dX7_nearer_12 : decode cX7_nearer 12 = .ok (.iload_n 1, 1) := by decide +kernel
theorem dX7_nearer_13 : decode cX7_nearer 13 = .ok (.if_icmp .le 9, 3) := by decide +kernel
theorem dX7_nearer_16 : decode cX7_nearer 16 = .ok (.iload_n 0, 1) := by decide +kernel
theorem dX7_nearer_17 : decode cX7_nearer 17 = .ok (.iconst 1, 1) := by decide +kernel
theorem dX7_nearer_18 : decode cX7_nearer 18 = .ok (.isub, 1) := by decide +kernel
theorem dX7_nearer_19 : decode cX7_nearer 19 = .ok (.goto 4, 3) := by decide +kernel
theorem dX7_nearer_22 : decode cX7_nearer 22 = .ok (.iload_n 1, 1) := by decide +kernel
theorem dX7_nearer_23 : decode cX7_nearer 23 = .ok (.ireturn, 1) := by decide +kernel
