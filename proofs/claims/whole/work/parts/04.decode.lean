theorem dX0_init_0 : decode cX0_init 0 = .ok (.aload_n 0, 1) := by decide +kernel
theorem dX0_init_1 : decode cX0_init 1 = .ok (.invokespecial 3, 3) := by decide +kernel
theorem dX0_init_4 : decode cX0_init 4 = .ok (.aload_n 0, 1) := by decide +kernel
theorem dX0_init_5 : decode cX0_init 5 = .ok (.bipush 8, 2) := by decide +kernel
theorem dX0_init_7 : decode cX0_init 7 = .ok (.anewarray 9, 3) := by decide +kernel
theorem dX0_init_10 : decode cX0_init 10 = .ok (.putfield 11, 3) := by decide +kernel
theorem dX0_init_13 : decode cX0_init 13 = .ok (.iconst 0, 1) := by decide +kernel
theorem dX0_init_14 : decode cX0_init 14 = .ok (.istore_n 1, 1) := by decide +kernel
theorem dX0_init_15 : decode cX0_init 15 = .ok (.iload_n 1, 1) := by decide +kernel
theorem dX0_init_16 : decode cX0_init 16 = .ok (.bipush 8, 2) := by decide +kernel
theorem dX0_init_18 : decode cX0_init 18 = .ok (.if_icmp .ge 22, 3) := by decide +kernel
theorem dX0_init_21 : decode cX0_init 21 = .ok (.aload_n 0, 1) := by decide +kernel
theorem dX0_init_22 : decode cX0_init 22 = .ok (.getfield 11, 3) := by decide +kernel
theorem dX0_init_25 : decode cX0_init 25 = .ok (.iload_n 1, 1) := by decide +kernel
theorem dX0_init_26 : decode cX0_init 26 = .ok (.new 9, 3) := by decide +kernel
theorem dX0_init_29 : decode cX0_init 29 = .ok (.dup, 1) := by decide +kernel
theorem dX0_init_30 : decode cX0_init 30 = .ok (.invokespecial 17, 3) := by decide +kernel
theorem dX0_init_33 : decode cX0_init 33 = .ok (.aastore, 1) := by decide +kernel
theorem dX0_init_34 : decode cX0_init 34 = .ok (.iinc 1 1, 3) := by decide +kernel
theorem dX0_init_37 : decode cX0_init 37 = .ok (.goto (-22), 3) := by decide +kernel
theorem dX0_init_40 : decode cX0_init 40 = .ok (.return_, 1) := by decide +kernel
theorem dX0_becomes_0 : decode cX0_becomes 0 = .ok (.iconst 0, 1) := by decide +kernel
theorem dX0_becomes_1 : decode cX0_becomes 1 = .ok (.istore_n 2, 1) := by decide +kernel
theorem dX0_becomes_2 : decode cX0_becomes 2 = .ok (.iload_n 2, 1) := by decide +kernel
theorem dX0_becomes_3 : decode cX0_becomes 3 = .ok (.aload_n 1, 1) := by decide +kernel
theorem dX0_becomes_4 : decode cX0_becomes 4 = .ok (.getfield 18, 3) := by decide +kernel
theorem dX0_becomes_7 : decode cX0_becomes 7 = .ok (.if_icmp .ge 24, 3) := by decide +kernel
theorem dX0_becomes_10 : decode cX0_becomes 10 = .ok (.aload_n 0, 1) := by decide +kernel
theorem dX0_becomes_11 : decode cX0_becomes 11 = .ok (.getfield 11, 3) := by decide +kernel
theorem dX0_becomes_14 : decode cX0_becomes 14 = .ok (.iload_n 2, 1) := by decide +kernel
theorem dX0_becomes_15 : decode cX0_becomes 15 = .ok (.aaload, 1) := by decide +kernel
theorem dX0_becomes_16 : decode cX0_becomes 16 = .ok (.aload_n 1, 1) := by decide +kernel
theorem dX0_becomes_17 : decode cX0_becomes 17 = .ok (.getfield 11, 3) := by decide +kernel
theorem dX0_becomes_20 : decode cX0_becomes 20 = .ok (.iload_n 2, 1) := by decide +kernel
theorem dX0_becomes_21 : decode cX0_becomes 21 = .ok (.aaload, 1) := by decide +kernel
theorem dX0_becomes_22 : decode cX0_becomes 22 = .ok (.invokevirtual 22, 3) := by decide +kernel
theorem dX0_becomes_25 : decode cX0_becomes 25 = .ok (.iinc 2 1, 3) := by decide +kernel
theorem dX0_becomes_28 : decode cX0_becomes 28 = .ok (.goto (-26), 3) := by decide +kernel
theorem dX0_becomes_31 : decode cX0_becomes 31 = .ok (.aload_n 0, 1) := by decide +kernel
theorem dX0_becomes_32 : decode cX0_becomes 32 = .ok (.aload_n 1, 1) := by decide +kernel
theorem dX0_becomes_33 : decode cX0_becomes 33 = .ok (.getfield 18, 3) := by decide +kernel
theorem dX0_becomes_36 : decode cX0_becomes 36 = .ok (.putfield 18, 3) := by decide +kernel
theorem dX0_becomes_39 : decode cX0_becomes 39 = .ok (.aload_n 0, 1) := by decide +kernel
theorem dX0_becomes_40 : decode cX0_becomes 40 = .ok (.aload_n 1, 1) := by decide +kernel
theorem dX0_becomes_41 : decode cX0_becomes 41 = .ok (.getfield 26, 3) := by decide +kernel
theorem dX0_becomes_44 : decode cX0_becomes 44 = .ok (.putfield 26, 3) := by decide +kernel
theorem dX0_becomes_47 : decode cX0_becomes 47 = .ok (.aload_n 0, 1) := by decide +kernel
theorem dX0_becomes_48 : decode cX0_becomes 48 = .ok (.aload_n 1, 1) := by decide +kernel
theorem dX0_becomes_49 : decode cX0_becomes 49 = .ok (.getfield 29, 3) := by decide +kernel
theorem dX0_becomes_52 : decode cX0_becomes 52 = .ok (.putfield 29, 3) := by decide +kernel
theorem dX0_becomes_55 : decode cX0_becomes 55 = .ok (.return_, 1) := by decide +kernel
theorem dX0_isThere_0 : decode cX0_isThere 0 = .ok (.iload_n 1, 1) := by decide +kernel
theorem dX0_isThere_1 : decode cX0_isThere 1 = .ok (.ifCond .lt 15, 3) := by decide +kernel
theorem dX0_isThere_4 : decode cX0_isThere 4 = .ok (.iload_n 1, 1) := by decide +kernel
theorem dX0_isThere_5 : decode cX0_isThere 5 = .ok (.aload_n 0, 1) := by decide +kernel
theorem dX0_isThere_6 : decode cX0_isThere 6 = .ok (.getfield 18, 3) := by decide +kernel
theorem dX0_isThere_9 : decode cX0_isThere 9 = .ok (.if_icmp .ge 7, 3) := by decide +kernel
theorem dX0_isThere_12 : decode cX0_isThere 12 = .ok (.iconst 1, 1) := by decide +kernel
theorem dX0_isThere_13 : decode cX0_isThere 13 = .ok (.goto 4, 3) := by decide +kernel
theorem dX0_isThere_16 : decode cX0_isThere 16 = .ok (.iconst 0, 1) := by decide +kernel
theorem dX0_isThere_17 : decode cX0_isThere 17 = .ok (.ireturn, 1) := by decide +kernel
theorem dX0_areTwo_0 : decode cX0_areTwo 0 = .ok (.aload_n 0, 1) := by decide +kernel
theorem dX0_areTwo_1 : decode cX0_areTwo 1 = .ok (.iload_n 1, 1) := by decide +kernel
theorem dX0_areTwo_2 : decode cX0_areTwo 2 = .ok (.invokevirtual 32, 3) := by decide +kernel
theorem dX0_areTwo_5 : decode cX0_areTwo 5 = .ok (.ifCond .eq 20, 3) := by decide +kernel
theorem dX0_areTwo_8 : decode cX0_areTwo 8 = .ok (.aload_n 0, 1) := by decide +kernel
theorem dX0_areTwo_9 : decode cX0_areTwo 9 = .ok (.iload_n 2, 1) := by decide +kernel
theorem dX0_areTwo_10 : decode cX0_areTwo 10 = .ok (.invokevirtual 32, 3) := by decide +kernel
theorem dX0_areTwo_13 : decode cX0_areTwo 13 = .ok (.ifCond .eq 12, 3) := by decide +kernel
theorem dX0_areTwo_16 : decode cX0_areTwo 16 = .ok (.iload_n 1, 1) := by decide +kernel
theorem dX0_areTwo_17 : decode cX0_areTwo 17 = .ok (.iload_n 2, 1) := by decide +kernel
theorem dX0_areTwo_18 : decode cX0_areTwo 18 = .ok (.if_icmp .eq 7, 3) := by decide +kernel
theorem dX0_areTwo_21 : decode cX0_areTwo 21 = .ok (.iconst 1, 1) := by decide +kernel
theorem dX0_areTwo_22 : decode cX0_areTwo 22 = .ok (.goto 4, 3) := by decide +kernel
theorem dX0_areTwo_25 : decode cX0_areTwo 25 = .ok (.iconst 0, 1) := by decide +kernel
theorem dX0_areTwo_26 : decode cX0_areTwo 26 = .ok (.ireturn, 1) := by decide +kernel
theorem dX0_takeIn_0 : decode cX0_takeIn 0 = .ok (.aload_n 0, 1) := by decide +kernel
theorem dX0_takeIn_1 : decode cX0_takeIn 1 = .ok (.getfield 18, 3) := by decide +kernel
theorem dX0_takeIn_4 : decode cX0_takeIn 4 = .ok (.bipush 8, 2) := by decide +kernel
theorem dX0_takeIn_6 : decode cX0_takeIn 6 = .ok (.if_icmp .lt 5, 3) := by decide +kernel
theorem dX0_takeIn_9 : decode cX0_takeIn 9 = .ok (.iconst 0, 1) := by decide +kernel
theorem dX0_takeIn_10 : decode cX0_takeIn 10 = .ok (.ireturn, 1) := by decide +kernel
theorem dX0_takeIn_11 : decode cX0_takeIn 11 = .ok (.aload_n 0, 1) := by decide +kernel
theorem dX0_takeIn_12 : decode cX0_takeIn 12 = .ok (.getfield 11, 3) := by decide +kernel
theorem dX0_takeIn_15 : decode cX0_takeIn 15 = .ok (.aload_n 0, 1) := by decide +kernel
theorem dX0_takeIn_16 : decode cX0_takeIn 16 = .ok (.getfield 18, 3) := by decide +kernel
theorem dX0_takeIn_19 : decode cX0_takeIn 19 = .ok (.aaload, 1) := by decide +kernel
theorem dX0_takeIn_20 : decode cX0_takeIn 20 = .ok (.astore 5, 2) := by decide +kernel
theorem dX0_takeIn_22 : decode cX0_takeIn 22 = .ok (.aload 5, 2) := by decide +kernel
theorem dX0_takeIn_24 : decode cX0_takeIn 24 = .ok (.aload_n 1, 1) := by decide +kernel
theorem dX0_takeIn_25 : decode cX0_takeIn 25 = .ok (.iload_n 2, 1) := by decide +kernel
theorem dX0_takeIn_26 : decode cX0_takeIn 26 = .ok (.invokevirtual 36, 3) := by decide +kernel
theorem dX0_takeIn_29 : decode cX0_takeIn 29 = .ok (.aload 5, 2) := by decide +kernel
theorem dX0_takeIn_31 : decode cX0_takeIn 31 = .ok (.iload_n 3, 1) := by decide +kernel
theorem dX0_takeIn_32 : decode cX0_takeIn 32 = .ok (.putfield 40, 3) := by decide +kernel
theorem dX0_takeIn_35 : decode cX0_takeIn 35 = .ok (.aload 5, 2) := by decide +kernel
theorem dX0_takeIn_37 : decode cX0_takeIn 37 = .ok (.iload 4, 2) := by decide +kernel
theorem dX0_takeIn_39 : decode cX0_takeIn 39 = .ok (.putfield 43, 3) := by decide +kernel
theorem dX0_takeIn_42 : decode cX0_takeIn 42 = .ok (.aload_n 0, 1) := by decide +kernel
theorem dX0_takeIn_43 : decode cX0_takeIn 43 = .ok (.dup, 1) := by decide +kernel
theorem dX0_takeIn_44 : decode cX0_takeIn 44 = .ok (.getfield 18, 3) := by decide +kernel
theorem dX0_takeIn_47 : decode cX0_takeIn 47 = .ok (.iconst 1, 1) := by decide +kernel
theorem dX0_takeIn_48 : decode cX0_takeIn 48 = .ok (.iadd, 1) := by decide +kernel
theorem dX0_takeIn_49 : decode cX0_takeIn 49 = .ok (.putfield 18, 3) := by decide +kernel
theorem dX0_takeIn_52 : decode cX0_takeIn 52 = .ok (.iconst 1, 1) := by decide +kernel
theorem dX0_takeIn_53 : decode cX0_takeIn 53 = .ok (.ireturn, 1) := by decide +kernel
theorem dX0_canEat_0 : decode cX0_canEat 0 = .ok (.aload_n 0, 1) := by decide +kernel
theorem dX0_canEat_1 : decode cX0_canEat 1 = .ok (.iload_n 1, 1) := by decide +kernel
theorem dX0_canEat_2 : decode cX0_canEat 2 = .ok (.iload_n 2, 1) := by decide +kernel
theorem dX0_canEat_3 : decode cX0_canEat 3 = .ok (.invokevirtual 46, 3) := by decide +kernel
theorem dX0_canEat_6 : decode cX0_canEat 6 = .ok (.ifCond .eq 38, 3) := by decide +kernel
theorem dX0_canEat_9 : decode cX0_canEat 9 = .ok (.aload_n 0, 1) := by decide +kernel
theorem dX0_canEat_10 : decode cX0_canEat 10 = .ok (.getfield 26, 3) := by decide +kernel
theorem dX0_canEat_13 : decode cX0_canEat 13 = .ok (.ifCond .le 31, 3) := by decide +kernel
theorem dX0_canEat_16 : decode cX0_canEat 16 = .ok (.aload_n 0, 1) := by decide +kernel
theorem dX0_canEat_17 : decode cX0_canEat 17 = .ok (.getfield 11, 3) := by decide +kernel
theorem dX0_canEat_20 : decode cX0_canEat 20 = .ok (.iload_n 1, 1) := by decide +kernel
theorem dX0_canEat_21 : decode cX0_canEat 21 = .ok (.aaload, 1) := by decide +kernel
theorem dX0_canEat_22 : decode cX0_canEat 22 = .ok (.getfield 40, 3) := by decide +kernel
theorem dX0_canEat_25 : decode cX0_canEat 25 = .ok (.ifCond .le 19, 3) := by decide +kernel
theorem dX0_canEat_28 : decode cX0_canEat 28 = .ok (.aload_n 0, 1) := by decide +kernel
theorem dX0_canEat_29 : decode cX0_canEat 29 = .ok (.getfield 11, 3) := by decide +kernel
theorem dX0_canEat_32 : decode cX0_canEat 32 = .ok (.iload_n 2, 1) := by decide +kernel
theorem dX0_canEat_33 : decode cX0_canEat 33 = .ok (.aaload, 1) := by decide +kernel
theorem dX0_canEat_34 : decode cX0_canEat 34 = .ok (.invokevirtual 50, 3) := by decide +kernel
theorem dX0_canEat_37 : decode cX0_canEat 37 = .ok (.ifCond .eq 7, 3) := by decide +kernel
theorem dX0_canEat_40 : decode cX0_canEat 40 = .ok (.iconst 1, 1) := by decide +kernel
theorem dX0_canEat_41 : decode cX0_canEat 41 = .ok (.goto 4, 3) := by decide +kernel
theorem dX0_canEat_44 : decode cX0_canEat 44 = .ok (.iconst 0, 1) := by decide +kernel
theorem dX0_canEat_45 : decode cX0_canEat 45 = .ok (.ireturn, 1) := by decide +kernel
theorem dX0_mayTurn_0 : decode cX0_mayTurn 0 = .ok (.aload_n 0, 1) := by decide +kernel
theorem dX0_mayTurn_1 : decode cX0_mayTurn 1 = .ok (.iload_n 1, 1) := by decide +kernel
theorem dX0_mayTurn_2 : decode cX0_mayTurn 2 = .ok (.iload_n 2, 1) := by decide +kernel
theorem dX0_mayTurn_3 : decode cX0_mayTurn 3 = .ok (.invokevirtual 54, 3) := by decide +kernel
theorem dX0_mayTurn_6 : decode cX0_mayTurn 6 = .ok (.ifCond .eq 17, 3) := by decide +kernel
theorem dX0_mayTurn_9 : decode cX0_mayTurn 9 = .ok (.aload_n 0, 1) := by decide +kernel
theorem dX0_mayTurn_10 : decode cX0_mayTurn 10 = .ok (.getfield 29, 3) := by decide +kernel
theorem dX0_mayTurn_13 : decode cX0_mayTurn 13 = .ok (.sipush 999, 3) := by decide +kernel
theorem dX0_mayTurn_16 : decode cX0_mayTurn 16 = .ok (.if_icmp .ge 7, 3) := by decide +kernel
theorem dX0_mayTurn_19 : decode cX0_mayTurn 19 = .ok (.iconst 1, 1) := by decide +kernel
theorem dX0_mayTurn_20 : decode cX0_mayTurn 20 = .ok (.goto 4, 3) := by decide +kernel
theorem dX0_mayTurn_23 : decode cX0_mayTurn 23 = .ok (.iconst 0, 1) := by decide +kernel
theorem dX0_mayTurn_24 : decode cX0_mayTurn 24 = .ok (.ireturn, 1) := by decide +kernel
theorem dX0_joyOfEating_0 : decode cX0_joyOfEating 0 = .ok (.aload_n 0, 1) := by decide +kernel
theorem dX0_joyOfEating_1 : decode cX0_joyOfEating 1 = .ok (.getfield 11, 3) := by decide +kernel
theorem dX0_joyOfEating_4 : decode cX0_joyOfEating 4 = .ok (.iload_n 1, 1) := by decide +kernel
theorem dX0_joyOfEating_5 : decode cX0_joyOfEating 5 = .ok (.aaload, 1) := by decide +kernel
theorem dX0_joyOfEating_6 : decode cX0_joyOfEating 6 = .ok (.astore_n 3, 1) := by decide +kernel
theorem dX0_joyOfEating_7 : decode cX0_joyOfEating 7 = .ok (.aload_n 3, 1) := by decide +kernel
theorem dX0_joyOfEating_8 : decode cX0_joyOfEating 8 = .ok (.invokevirtual 57, 3) := by decide +kernel
theorem dX0_joyOfEating_11 : decode cX0_joyOfEating 11 = .ok (.aload_n 3, 1) := by decide +kernel
theorem dX0_joyOfEating_12 : decode cX0_joyOfEating 12 = .ok (.getfield 61, 3) := by decide +kernel
theorem dX0_joyOfEating_15 : decode cX0_joyOfEating 15 = .ok (.getfield 65, 3) := by decide +kernel
theorem dX0_joyOfEating_18 : decode cX0_joyOfEating 18 = .ok (.aload_n 0, 1) := by decide +kernel
theorem dX0_joyOfEating_19 : decode cX0_joyOfEating 19 = .ok (.getfield 11, 3) := by decide +kernel
theorem dX0_joyOfEating_22 : decode cX0_joyOfEating 22 = .ok (.iload_n 2, 1) := by decide +kernel
theorem dX0_joyOfEating_23 : decode cX0_joyOfEating 23 = .ok (.aaload, 1) := by decide +kernel
theorem dX0_joyOfEating_24 : decode cX0_joyOfEating 24 = .ok (.getfield 70, 3) := by decide +kernel
theorem dX0_joyOfEating_27 : decode cX0_joyOfEating 27 = .ok (.imul, 1) := by decide +kernel
theorem dX0_joyOfEating_28 : decode cX0_joyOfEating 28 = .ok (.isub, 1) := by decide +kernel
theorem dX0_joyOfEating_29 : decode cX0_joyOfEating 29 = .ok (.iconst 0, 1) := by decide +kernel
theorem dX0_joyOfEating_30 : decode cX0_joyOfEating 30 = .ok (.invokestatic 73, 3) := by decide +kernel
theorem dX0_joyOfEating_33 : decode cX0_joyOfEating 33 = .ok (.ireturn, 1) := by decide +kernel
theorem dX0_joyOfLooking_0 : decode cX0_joyOfLooking 0 = .ok (.aload_n 0, 1) := by decide +kernel
theorem dX0_joyOfLooking_1 : decode cX0_joyOfLooking 1 = .ok (.getfield 11, 3) := by decide +kernel
theorem dX0_joyOfLooking_4 : decode cX0_joyOfLooking 4 = .ok (.iload_n 1, 1) := by decide +kernel
theorem dX0_joyOfLooking_5 : decode cX0_joyOfLooking 5 = .ok (.aaload, 1) := by decide +kernel
theorem dX0_joyOfLooking_6 : decode cX0_joyOfLooking 6 = .ok (.invokevirtual 79, 3) := by decide +kernel
theorem dX0_joyOfLooking_9 : decode cX0_joyOfLooking 9 = .ok (.ireturn, 1) := by decide +kernel
theorem dX0_joysOf_0 : decode cX0_joysOf 0 = .ok (.aload_n 0, 1) := by decide +kernel
theorem dX0_joysOf_1 : decode cX0_joysOf 1 = .ok (.iload_n 1, 1) := by decide +kernel
theorem dX0_joysOf_2 : decode cX0_joysOf 2 = .ok (.iload_n 2, 1) := by decide +kernel
theorem dX0_joysOf_3 : decode cX0_joysOf 3 = .ok (.invokevirtual 82, 3) := by decide +kernel
theorem dX0_joysOf_6 : decode cX0_joysOf 6 = .ok (.aload_n 0, 1) := by decide +kernel
theorem dX0_joysOf_7 : decode cX0_joysOf 7 = .ok (.iload_n 2, 1) := by decide +kernel
theorem dX0_joysOf_8 : decode cX0_joysOf 8 = .ok (.invokevirtual 85, 3) := by decide +kernel
theorem dX0_joysOf_11 : decode cX0_joysOf 11 = .ok (.iadd, 1) := by decide +kernel
theorem dX0_joysOf_12 : decode cX0_joysOf 12 = .ok (.ireturn, 1) := by decide +kernel
theorem dX0_turn_0 : decode cX0_turn 0 = .ok (.aload_n 0, 1) := by decide +kernel
theorem dX0_turn_1 : decode cX0_turn 1 = .ok (.iload_n 1, 1) := by decide +kernel
theorem dX0_turn_2 : decode cX0_turn 2 = .ok (.iload_n 2, 1) := by decide +kernel
theorem dX0_turn_3 : decode cX0_turn 3 = .ok (.invokevirtual 89, 3) := by decide +kernel
theorem dX0_turn_6 : decode cX0_turn 6 = .ok (.istore_n 3, 1) := by decide +kernel
theorem dX0_turn_7 : decode cX0_turn 7 = .ok (.aload_n 0, 1) := by decide +kernel
theorem dX0_turn_8 : decode cX0_turn 8 = .ok (.getfield 11, 3) := by decide +kernel
theorem dX0_turn_11 : decode cX0_turn 11 = .ok (.iload_n 1, 1) := by decide +kernel
theorem dX0_turn_12 : decode cX0_turn 12 = .ok (.aaload, 1) := by decide +kernel
theorem dX0_turn_13 : decode cX0_turn 13 = .ok (.astore 4, 2) := by decide +kernel
theorem dX0_turn_15 : decode cX0_turn 15 = .ok (.aload_n 0, 1) := by decide +kernel
theorem dX0_turn_16 : decode cX0_turn 16 = .ok (.getfield 11, 3) := by decide +kernel
theorem dX0_turn_19 : decode cX0_turn 19 = .ok (.iload_n 2, 1) := by decide +kernel
theorem dX0_turn_20 : decode cX0_turn 20 = .ok (.aaload, 1) := by decide +kernel
theorem dX0_turn_21 : decode cX0_turn 21 = .ok (.astore 5, 2) := by decide +kernel
theorem dX0_turn_23 : decode cX0_turn 23 = .ok (.aload 4, 2) := by decide +kernel
theorem dX0_turn_25 : decode cX0_turn 25 = .ok (.dup, 1) := by decide +kernel
theorem dX0_turn_26 : decode cX0_turn 26 = .ok (.getfield 40, 3) := by decide +kernel
theorem dX0_turn_29 : decode cX0_turn 29 = .ok (.aload 4, 2) := by decide +kernel
theorem dX0_turn_31 : decode cX0_turn 31 = .ok (.invokevirtual 57, 3) := by decide +kernel
theorem dX0_turn_34 : decode cX0_turn 34 = .ok (.isub, 1) := by decide +kernel
theorem dX0_turn_35 : decode cX0_turn 35 = .ok (.putfield 40, 3) := by decide +kernel
theorem dX0_turn_38 : decode cX0_turn 38 = .ok (.aload 5, 2) := by decide +kernel
theorem dX0_turn_40 : decode cX0_turn 40 = .ok (.dup, 1) := by decide +kernel
theorem dX0_turn_41 : decode cX0_turn 41 = .ok (.getfield 43, 3) := by decide +kernel
theorem dX0_turn_44 : decode cX0_turn 44 = .ok (.aload 5, 2) := by decide +kernel
theorem dX0_turn_46 : decode cX0_turn 46 = .ok (.invokevirtual 79, 3) := by decide +kernel
theorem dX0_turn_49 : decode cX0_turn 49 = .ok (.isub, 1) := by decide +kernel
theorem dX0_turn_50 : decode cX0_turn 50 = .ok (.putfield 43, 3) := by decide +kernel
theorem dX0_turn_53 : decode cX0_turn 53 = .ok (.aload 4, 2) := by decide +kernel
theorem dX0_turn_55 : decode cX0_turn 55 = .ok (.aload 4, 2) := by decide +kernel
theorem dX0_turn_57 : decode cX0_turn 57 = .ok (.getfield 92, 3) := by decide +kernel
theorem dX0_turn_60 : decode cX0_turn 60 = .ok (.iconst 1, 1) := by decide +kernel
theorem dX0_turn_61 : decode cX0_turn 61 = .ok (.iadd, 1) := by decide +kernel
theorem dX0_turn_62 : decode cX0_turn 62 = .ok (.bipush 99, 2) := by decide +kernel
theorem dX0_turn_64 : decode cX0_turn 64 = .ok (.invokestatic 95, 3) := by decide +kernel
theorem dX0_turn_67 : decode cX0_turn 67 = .ok (.putfield 92, 3) := by decide +kernel
theorem dX0_turn_70 : decode cX0_turn 70 = .ok (.aload 5, 2) := by decide +kernel
theorem dX0_turn_72 : decode cX0_turn 72 = .ok (.aload 5, 2) := by decide +kernel
theorem dX0_turn_74 : decode cX0_turn 74 = .ok (.getfield 70, 3) := by decide +kernel
theorem dX0_turn_77 : decode cX0_turn 77 = .ok (.iconst 1, 1) := by decide +kernel
theorem dX0_turn_78 : decode cX0_turn 78 = .ok (.iadd, 1) := by decide +kernel
theorem dX0_turn_79 : decode cX0_turn 79 = .ok (.bipush 99, 2) := by decide +kernel
theorem dX0_turn_81 : decode cX0_turn 81 = .ok (.invokestatic 95, 3) := by decide +kernel
theorem dX0_turn_84 : decode cX0_turn 84 = .ok (.putfield 70, 3) := by decide +kernel
theorem dX0_turn_87 : decode cX0_turn 87 = .ok (.aload_n 0, 1) := by decide +kernel
theorem dX0_turn_88 : decode cX0_turn 88 = .ok (.dup, 1) := by decide +kernel
theorem dX0_turn_89 : decode cX0_turn 89 = .ok (.getfield 26, 3) := by decide +kernel
theorem dX0_turn_92 : decode cX0_turn 92 = .ok (.iconst 1, 1) := by decide +kernel
theorem dX0_turn_93 : decode cX0_turn 93 = .ok (.isub, 1) := by decide +kernel
theorem dX0_turn_94 : decode cX0_turn 94 = .ok (.putfield 26, 3) := by decide +kernel
theorem dX0_turn_97 : decode cX0_turn 97 = .ok (.aload_n 0, 1) := by decide +kernel
theorem dX0_turn_98 : decode cX0_turn 98 = .ok (.dup, 1) := by decide +kernel
theorem dX0_turn_99 : decode cX0_turn 99 = .ok (.getfield 29, 3) := by decide +kernel
theorem dX0_turn_102 : decode cX0_turn 102 = .ok (.iconst 1, 1) := by decide +kernel
theorem dX0_turn_103 : decode cX0_turn 103 = .ok (.iadd, 1) := by decide +kernel
theorem dX0_turn_104 : decode cX0_turn 104 = .ok (.putfield 29, 3) := by decide +kernel
theorem dX0_turn_107 : decode cX0_turn 107 = .ok (.iload_n 3, 1) := by decide +kernel
theorem dX0_turn_108 : decode cX0_turn 108 = .ok (.ireturn, 1) := by decide +kernel
theorem dX0_bestTurn_0 : decode cX0_bestTurn 0 = .ok (.bipush (-4), 2) := by decide +kernel
theorem dX0_bestTurn_2 : decode cX0_bestTurn 2 = .ok (.istore_n 1, 1) := by decide +kernel
theorem dX0_bestTurn_3 : decode cX0_bestTurn 3 = .ok (.iconst (-1), 1) := by decide +kernel
theorem dX0_bestTurn_4 : decode cX0_bestTurn 4 = .ok (.istore_n 2, 1) := by decide +kernel
theorem dX0_bestTurn_5 : decode cX0_bestTurn 5 = .ok (.iconst 0, 1) := by decide +kernel
theorem dX0_bestTurn_6 : decode cX0_bestTurn 6 = .ok (.istore_n 3, 1) := by decide +kernel
theorem dX0_bestTurn_7 : decode cX0_bestTurn 7 = .ok (.iload_n 3, 1) := by decide +kernel
theorem dX0_bestTurn_8 : decode cX0_bestTurn 8 = .ok (.aload_n 0, 1) := by decide +kernel
theorem dX0_bestTurn_9 : decode cX0_bestTurn 9 = .ok (.getfield 18, 3) := by decide +kernel
theorem dX0_bestTurn_12 : decode cX0_bestTurn 12 = .ok (.if_icmp .ge 48, 3) := by decide +kernel
theorem dX0_bestTurn_15 : decode cX0_bestTurn 15 = .ok (.aload_n 0, 1) := by decide +kernel
theorem dX0_bestTurn_16 : decode cX0_bestTurn 16 = .ok (.iload_n 3, 1) := by decide +kernel
theorem dX0_bestTurn_17 : decode cX0_bestTurn 17 = .ok (.invokevirtual 98, 3) := by decide +kernel
theorem dX0_bestTurn_20 : decode cX0_bestTurn 20 = .ok (.istore 4, 2) := by decide +kernel
theorem dX0_bestTurn_22 : decode cX0_bestTurn 22 = .ok (.iload 4, 2) := by decide +kernel
theorem dX0_bestTurn_24 : decode cX0_bestTurn 24 = .ok (.ifCond .lt 30, 3) := by decide +kernel
theorem dX0_bestTurn_27 : decode cX0_bestTurn 27 = .ok (.aload_n 0, 1) := by decide +kernel
theorem dX0_bestTurn_28 : decode cX0_bestTurn 28 = .ok (.iload_n 3, 1) := by decide +kernel
theorem dX0_bestTurn_29 : decode cX0_bestTurn 29 = .ok (.iload 4, 2) := by decide +kernel
theorem dX0_bestTurn_31 : decode cX0_bestTurn 31 = .ok (.invokevirtual 89, 3) := by decide +kernel
theorem dX0_bestTurn_34 : decode cX0_bestTurn 34 = .ok (.iload_n 2, 1) := by decide +kernel
theorem dX0_bestTurn_35 : decode cX0_bestTurn 35 = .ok (.if_icmp .le 19, 3) := by decide +kernel
theorem dX0_bestTurn_38 : decode cX0_bestTurn 38 = .ok (.aload_n 0, 1) := by decide +kernel
theorem dX0_bestTurn_39 : decode cX0_bestTurn 39 = .ok (.iload_n 3, 1) := by decide +kernel
theorem dX0_bestTurn_40 : decode cX0_bestTurn 40 = .ok (.iload 4, 2) := by decide +kernel
theorem dX0_bestTurn_42 : decode cX0_bestTurn 42 = .ok (.invokevirtual 89, 3) := by decide +kernel
theorem dX0_bestTurn_45 : decode cX0_bestTurn 45 = .ok (.istore_n 2, 1) := by decide +kernel
theorem dX0_bestTurn_46 : decode cX0_bestTurn 46 = .ok (.bipush 10, 2) := by decide +kernel
theorem dX0_bestTurn_48 : decode cX0_bestTurn 48 = .ok (.iload_n 3, 1) := by decide +kernel
theorem dX0_bestTurn_49 : decode cX0_bestTurn 49 = .ok (.imul, 1) := by decide +kernel
theorem dX0_bestTurn_50 : decode cX0_bestTurn 50 = .ok (.iload 4, 2) := by decide +kernel
theorem dX0_bestTurn_52 : decode cX0_bestTurn 52 = .ok (.iadd, 1) := by decide +kernel
theorem dX0_bestTurn_53 : decode cX0_bestTurn 53 = .ok (.istore_n 1, 1) := by decide +kernel
theorem dX0_bestTurn_54 : decode cX0_bestTurn 54 = .ok (.iinc 3 1, 3) := by decide +kernel
theorem dX0_bestTurn_57 : decode cX0_bestTurn 57 = .ok (.goto (-50), 3) := by decide +kernel
theorem dX0_bestTurn_60 : decode cX0_bestTurn 60 = .ok (.iload_n 1, 1) := by decide +kernel
theorem dX0_bestTurn_61 : decode cX0_bestTurn 61 = .ok (.ireturn, 1) := by decide +kernel
theorem dX0_bestLookerAt_0 : decode cX0_bestLookerAt 0 = .ok (.bipush (-4), 2) := by decide +kernel
theorem dX0_bestLookerAt_2 : decode cX0_bestLookerAt 2 = .ok (.istore_n 2, 1) := by decide +kernel
theorem dX0_bestLookerAt_3 : decode cX0_bestLookerAt 3 = .ok (.iconst (-1), 1) := by decide +kernel
theorem dX0_bestLookerAt_4 : decode cX0_bestLookerAt 4 = .ok (.istore_n 3, 1) := by decide +kernel
theorem dX0_bestLookerAt_5 : decode cX0_bestLookerAt 5 = .ok (.iconst 0, 1) := by decide +kernel
theorem dX0_bestLookerAt_6 : decode cX0_bestLookerAt 6 = .ok (.istore 4, 2) := by decide +kernel
theorem dX0_bestLookerAt_8 : decode cX0_bestLookerAt 8 = .ok (.iload 4, 2) := by decide +kernel
theorem dX0_bestLookerAt_10 : decode cX0_bestLookerAt 10 = .ok (.aload_n 0, 1) := by decide +kernel
theorem dX0_bestLookerAt_11 : decode cX0_bestLookerAt 11 = .ok (.getfield 18, 3) := by decide +kernel
theorem dX0_bestLookerAt_14 : decode cX0_bestLookerAt 14 = .ok (.if_icmp .ge 41, 3) := by decide +kernel
theorem dX0_bestLookerAt_17 : decode cX0_bestLookerAt 17 = .ok (.aload_n 0, 1) := by decide +kernel
theorem dX0_bestLookerAt_18 : decode cX0_bestLookerAt 18 = .ok (.iload_n 1, 1) := by decide +kernel
theorem dX0_bestLookerAt_19 : decode cX0_bestLookerAt 19 = .ok (.iload 4, 2) := by decide +kernel
theorem dX0_bestLookerAt_21 : decode cX0_bestLookerAt 21 = .ok (.invokevirtual 54, 3) := by decide +kernel
theorem dX0_bestLookerAt_24 : decode cX0_bestLookerAt 24 = .ok (.ifCond .eq 25, 3) := by decide +kernel
theorem dX0_bestLookerAt_27 : decode cX0_bestLookerAt 27 = .ok (.aload_n 0, 1) := by decide +kernel
theorem dX0_bestLookerAt_28 : decode cX0_bestLookerAt 28 = .ok (.iload_n 1, 1) := by decide +kernel
theorem dX0_bestLookerAt_29 : decode cX0_bestLookerAt 29 = .ok (.iload 4, 2) := by decide +kernel
theorem dX0_bestLookerAt_31 : decode cX0_bestLookerAt 31 = .ok (.invokevirtual 89, 3) := by decide +kernel
theorem dX0_bestLookerAt_34 : decode cX0_bestLookerAt 34 = .ok (.iload_n 3, 1) := by decide +kernel
theorem dX0_bestLookerAt_35 : decode cX0_bestLookerAt 35 = .ok (.if_icmp .le 14, 3) := by decide +kernel
theorem dX0_bestLookerAt_38 : decode cX0_bestLookerAt 38 = .ok (.aload_n 0, 1) := by decide +kernel
theorem dX0_bestLookerAt_39 : decode cX0_bestLookerAt 39 = .ok (.iload_n 1, 1) := by decide +kernel
theorem dX0_bestLookerAt_40 : decode cX0_bestLookerAt 40 = .ok (.iload 4, 2) := by decide +kernel
theorem dX0_bestLookerAt_42 : decode cX0_bestLookerAt 42 = .ok (.invokevirtual 89, 3) := by decide +kernel
theorem dX0_bestLookerAt_45 : decode cX0_bestLookerAt 45 = .ok (.istore_n 3, 1) := by decide +kernel
theorem dX0_bestLookerAt_46 : decode cX0_bestLookerAt 46 = .ok (.iload 4, 2) := by decide +kernel
theorem dX0_bestLookerAt_48 : decode cX0_bestLookerAt 48 = .ok (.istore_n 2, 1) := by decide +kernel
theorem dX0_bestLookerAt_49 : decode cX0_bestLookerAt 49 = .ok (.iinc 4 1, 3) := by decide +kernel
theorem dX0_bestLookerAt_52 : decode cX0_bestLookerAt 52 = .ok (.goto (-44), 3) := by decide +kernel
theorem dX0_bestLookerAt_55 : decode cX0_bestLookerAt 55 = .ok (.iload_n 2, 1) := by decide +kernel
theorem dX0_bestLookerAt_56 : decode cX0_bestLookerAt 56 = .ok (.ireturn, 1) := by decide +kernel
theorem dX0_allHunger_0 : decode cX0_allHunger 0 = .ok (.iconst 0, 1) := by decide +kernel
theorem dX0_allHunger_1 : decode cX0_allHunger 1 = .ok (.istore_n 1, 1) := by decide +kernel
theorem dX0_allHunger_2 : decode cX0_allHunger 2 = .ok (.iconst 0, 1) := by decide +kernel
theorem dX0_allHunger_3 : decode cX0_allHunger 3 = .ok (.istore_n 2, 1) := by decide +kernel
theorem dX0_allHunger_4 : decode cX0_allHunger 4 = .ok (.iload_n 2, 1) := by decide +kernel
theorem dX0_allHunger_5 : decode cX0_allHunger 5 = .ok (.aload_n 0, 1) := by decide +kernel
theorem dX0_allHunger_6 : decode cX0_allHunger 6 = .ok (.getfield 18, 3) := by decide +kernel
theorem dX0_allHunger_9 : decode cX0_allHunger 9 = .ok (.if_icmp .ge 21, 3) := by decide +kernel
theorem dX0_allHunger_12 : decode cX0_allHunger 12 = .ok (.iload_n 1, 1) := by decide +kernel
theorem dX0_allHunger_13 : decode cX0_allHunger 13 = .ok (.aload_n 0, 1) := by decide +kernel
theorem dX0_allHunger_14 : decode cX0_allHunger 14 = .ok (.getfield 11, 3) := by decide +kernel
theorem dX0_allHunger_17 : decode cX0_allHunger 17 = .ok (.iload_n 2, 1) := by decide +kernel
theorem dX0_allHunger_18 : decode cX0_allHunger 18 = .ok (.aaload, 1) := by decide +kernel
theorem dX0_allHunger_19 : decode cX0_allHunger 19 = .ok (.getfield 40, 3) := by decide +kernel
theorem dX0_allHunger_22 : decode cX0_allHunger 22 = .ok (.iadd, 1) := by decide +kernel
theorem dX0_allHunger_23 : decode cX0_allHunger 23 = .ok (.istore_n 1, 1) := by decide +kernel
theorem dX0_allHunger_24 : decode cX0_allHunger 24 = .ok (.iinc 2 1, 3) := by decide +kernel
theorem dX0_allHunger_27 : decode cX0_allHunger 27 = .ok (.goto (-23), 3) := by decide +kernel
theorem dX0_allHunger_30 : decode cX0_allHunger 30 = .ok (.iload_n 1, 1) := by decide +kernel
theorem dX0_allHunger_31 : decode cX0_allHunger 31 = .ok (.ireturn, 1) := by decide +kernel
theorem dX0_allWish_0 : decode cX0_allWish 0 = .ok (.iconst 0, 1) := by decide +kernel
theorem dX0_allWish_1 : decode cX0_allWish 1 = .ok (.istore_n 1, 1) := by decide +kernel
theorem dX0_allWish_2 : decode cX0_allWish 2 = .ok (.iconst 0, 1) := by decide +kernel
theorem dX0_allWish_3 : decode cX0_allWish 3 = .ok (.istore_n 2, 1) := by decide +kernel
theorem dX0_allWish_4 : decode cX0_allWish 4 = .ok (.iload_n 2, 1) := by decide +kernel
theorem dX0_allWish_5 : decode cX0_allWish 5 = .ok (.aload_n 0, 1) := by decide +kernel
theorem dX0_allWish_6 : decode cX0_allWish 6 = .ok (.getfield 18, 3) := by decide +kernel
theorem dX0_allWish_9 : decode cX0_allWish 9 = .ok (.if_icmp .ge 21, 3) := by decide +kernel
theorem dX0_allWish_12 : decode cX0_allWish 12 = .ok (.iload_n 1, 1) := by decide +kernel
theorem dX0_allWish_13 : decode cX0_allWish 13 = .ok (.aload_n 0, 1) := by decide +kernel
theorem dX0_allWish_14 : decode cX0_allWish 14 = .ok (.getfield 11, 3) := by decide +kernel
theorem dX0_allWish_17 : decode cX0_allWish 17 = .ok (.iload_n 2, 1) := by decide +kernel
theorem dX0_allWish_18 : decode cX0_allWish 18 = .ok (.aaload, 1) := by decide +kernel
theorem dX0_allWish_19 : decode cX0_allWish 19 = .ok (.getfield 43, 3) := by decide +kernel
theorem dX0_allWish_22 : decode cX0_allWish 22 = .ok (.iadd, 1) := by decide +kernel
theorem dX0_allWish_23 : decode cX0_allWish 23 = .ok (.istore_n 1, 1) := by decide +kernel
theorem dX0_allWish_24 : decode cX0_allWish 24 = .ok (.iinc 2 1, 3) := by decide +kernel
theorem dX0_allWish_27 : decode cX0_allWish 27 = .ok (.goto (-23), 3) := by decide +kernel
theorem dX0_allWish_30 : decode cX0_allWish 30 = .ok (.iload_n 1, 1) := by decide +kernel
theorem dX0_allWish_31 : decode cX0_allWish 31 = .ok (.ireturn, 1) := by decide +kernel
theorem dX0_allEaten_0 : decode cX0_allEaten 0 = .ok (.iconst 0, 1) := by decide +kernel
theorem dX0_allEaten_1 : decode cX0_allEaten 1 = .ok (.istore_n 1, 1) := by decide +kernel
theorem dX0_allEaten_2 : decode cX0_allEaten 2 = .ok (.iconst 0, 1) := by decide +kernel
theorem dX0_allEaten_3 : decode cX0_allEaten 3 = .ok (.istore_n 2, 1) := by decide +kernel
theorem dX0_allEaten_4 : decode cX0_allEaten 4 = .ok (.iload_n 2, 1) := by decide +kernel
theorem dX0_allEaten_5 : decode cX0_allEaten 5 = .ok (.aload_n 0, 1) := by decide +kernel
theorem dX0_allEaten_6 : decode cX0_allEaten 6 = .ok (.getfield 18, 3) := by decide +kernel
theorem dX0_allEaten_9 : decode cX0_allEaten 9 = .ok (.if_icmp .ge 21, 3) := by decide +kernel
theorem dX0_allEaten_12 : decode cX0_allEaten 12 = .ok (.iload_n 1, 1) := by decide +kernel
theorem dX0_allEaten_13 : decode cX0_allEaten 13 = .ok (.aload_n 0, 1) := by decide +kernel
theorem dX0_allEaten_14 : decode cX0_allEaten 14 = .ok (.getfield 11, 3) := by decide +kernel
theorem dX0_allEaten_17 : decode cX0_allEaten 17 = .ok (.iload_n 2, 1) := by decide +kernel
theorem dX0_allEaten_18 : decode cX0_allEaten 18 = .ok (.aaload, 1) := by decide +kernel
theorem dX0_allEaten_19 : decode cX0_allEaten 19 = .ok (.getfield 92, 3) := by decide +kernel
theorem dX0_allEaten_22 : decode cX0_allEaten 22 = .ok (.iadd, 1) := by decide +kernel
theorem dX0_allEaten_23 : decode cX0_allEaten 23 = .ok (.istore_n 1, 1) := by decide +kernel
theorem dX0_allEaten_24 : decode cX0_allEaten 24 = .ok (.iinc 2 1, 3) := by decide +kernel
theorem dX0_allEaten_27 : decode cX0_allEaten 27 = .ok (.goto (-23), 3) := by decide +kernel
theorem dX0_allEaten_30 : decode cX0_allEaten 30 = .ok (.iload_n 1, 1) := by decide +kernel
theorem dX0_allEaten_31 : decode cX0_allEaten 31 = .ok (.ireturn, 1) := by decide +kernel
theorem dX0_whoHasHadNone_0 : decode cX0_whoHasHadNone 0 = .ok (.iconst 0, 1) := by decide +kernel
theorem dX0_whoHasHadNone_1 : decode cX0_whoHasHadNone 1 = .ok (.istore_n 1, 1) := by decide +kernel
theorem dX0_whoHasHadNone_2 : decode cX0_whoHasHadNone 2 = .ok (.iconst 0, 1) := by decide +kernel
theorem dX0_whoHasHadNone_3 : decode cX0_whoHasHadNone 3 = .ok (.istore_n 2, 1) := by decide +kernel
theorem dX0_whoHasHadNone_4 : decode cX0_whoHasHadNone 4 = .ok (.iload_n 2, 1) := by decide +kernel
theorem dX0_whoHasHadNone_5 : decode cX0_whoHasHadNone 5 = .ok (.aload_n 0, 1) := by decide +kernel
theorem dX0_whoHasHadNone_6 : decode cX0_whoHasHadNone 6 = .ok (.getfield 18, 3) := by decide +kernel
theorem dX0_whoHasHadNone_9 : decode cX0_whoHasHadNone 9 = .ok (.if_icmp .ge 27, 3) := by decide +kernel
theorem dX0_whoHasHadNone_12 : decode cX0_whoHasHadNone 12 = .ok (.aload_n 0, 1) := by decide +kernel
theorem dX0_whoHasHadNone_13 : decode cX0_whoHasHadNone 13 = .ok (.getfield 11, 3) := by decide +kernel
theorem dX0_whoHasHadNone_16 : decode cX0_whoHasHadNone 16 = .ok (.iload_n 2, 1) := by decide +kernel
theorem dX0_whoHasHadNone_17 : decode cX0_whoHasHadNone 17 = .ok (.aaload, 1) := by decide +kernel
theorem dX0_whoHasHadNone_18 : decode cX0_whoHasHadNone 18 = .ok (.getfield 92, 3) := by decide +kernel
theorem dX0_whoHasHadNone_21 : decode cX0_whoHasHadNone 21 = .ok (.ifCond .ne 9, 3) := by decide +kernel
theorem dX0_whoHasHadNone_24 : decode cX0_whoHasHadNone 24 = .ok (.iload_n 1, 1) := by decide +kernel
theorem dX0_whoHasHadNone_25 : decode cX0_whoHasHadNone 25 = .ok (.iconst 1, 1) := by decide +kernel
theorem dX0_whoHasHadNone_26 : decode cX0_whoHasHadNone 26 = .ok (.iload_n 2, 1) := by decide +kernel
theorem dX0_whoHasHadNone_27 : decode cX0_whoHasHadNone 27 = .ok (.ishl, 1) := by decide +kernel
theorem dX0_whoHasHadNone_28 : decode cX0_whoHasHadNone 28 = .ok (.ior, 1) := by decide +kernel
theorem dX0_whoHasHadNone_29 : decode cX0_whoHasHadNone 29 = .ok (.istore_n 1, 1) := by decide +kernel
theorem dX0_whoHasHadNone_30 : decode cX0_whoHasHadNone 30 = .ok (.iinc 2 1, 3) := by decide +kernel
theorem dX0_whoHasHadNone_33 : decode cX0_whoHasHadNone 33 = .ok (.goto (-29), 3) := by decide +kernel
theorem dX0_whoHasHadNone_36 : decode cX0_whoHasHadNone 36 = .ok (.iload_n 1, 1) := by decide +kernel
theorem dX0_whoHasHadNone_37 : decode cX0_whoHasHadNone 37 = .ok (.ireturn, 1) := by decide +kernel
theorem dX1_biteWith_0 : decode cX1_biteWith 0 = .ok (.aload_n 0, 1) := by decide +kernel
theorem dX1_biteWith_1 : decode cX1_biteWith 1 = .ok (.getstatic 10, 3) := by decide +kernel
theorem dX1_biteWith_4 : decode cX1_biteWith 4 = .ok (.if_acmp .ne 14, 3) := by decide +kernel
theorem dX1_biteWith_7 : decode cX1_biteWith 7 = .ok (.aload_n 0, 1) := by decide +kernel
theorem dX1_biteWith_8 : decode cX1_biteWith 8 = .ok (.getfield 51, 3) := by decide +kernel
theorem dX1_biteWith_11 : decode cX1_biteWith 11 = .ok (.iload_n 1, 1) := by decide +kernel
theorem dX1_biteWith_12 : decode cX1_biteWith 12 = .ok (.iconst 2, 1) := by decide +kernel
theorem dX1_biteWith_13 : decode cX1_biteWith 13 = .ok (.idiv, 1) := by decide +kernel
theorem dX1_biteWith_14 : decode cX1_biteWith 14 = .ok (.iadd, 1) := by decide +kernel
theorem dX1_biteWith_15 : decode cX1_biteWith 15 = .ok (.goto 7, 3) := by decide +kernel
theorem dX1_biteWith_18 : decode cX1_biteWith 18 = .ok (.aload_n 0, 1) := by decide +kernel
theorem dX1_biteWith_19 : decode cX1_biteWith 19 = .ok (.getfield 51, 3) := by decide +kernel
theorem dX1_biteWith_22 : decode cX1_biteWith 22 = .ok (.ireturn, 1) := by decide +kernel
theorem dX1_gazeWith_0 : decode cX1_gazeWith 0 = .ok (.aload_n 0, 1) := by decide +kernel
theorem dX1_gazeWith_1 : decode cX1_gazeWith 1 = .ok (.getstatic 13, 3) := by decide +kernel
theorem dX1_gazeWith_4 : decode cX1_gazeWith 4 = .ok (.if_acmp .ne 12, 3) := by decide +kernel
theorem dX1_gazeWith_7 : decode cX1_gazeWith 7 = .ok (.aload_n 0, 1) := by decide +kernel
theorem dX1_gazeWith_8 : decode cX1_gazeWith 8 = .ok (.getfield 54, 3) := by decide +kernel
theorem dX1_gazeWith_11 : decode cX1_gazeWith 11 = .ok (.iload_n 1, 1) := by decide +kernel
theorem dX1_gazeWith_12 : decode cX1_gazeWith 12 = .ok (.iconst 3, 1) := by decide +kernel
theorem dX1_gazeWith_13 : decode cX1_gazeWith 13 = .ok (.idiv, 1) := by decide +kernel
theorem dX1_gazeWith_14 : decode cX1_gazeWith 14 = .ok (.iadd, 1) := by decide +kernel
theorem dX1_gazeWith_15 : decode cX1_gazeWith 15 = .ok (.ireturn, 1) := by decide +kernel
theorem dX1_gazeWith_16 : decode cX1_gazeWith 16 = .ok (.aload_n 0, 1) := by decide +kernel
theorem dX1_gazeWith_17 : decode cX1_gazeWith 17 = .ok (.getstatic 19, 3) := by decide +kernel
theorem dX1_gazeWith_20 : decode cX1_gazeWith 20 = .ok (.if_acmp .ne 16, 3) := by decide +kernel
theorem dX1_gazeWith_23 : decode cX1_gazeWith 23 = .ok (.aload_n 0, 1) := by decide +kernel
theorem dX1_gazeWith_24 : decode cX1_gazeWith 24 = .ok (.getfield 54, 3) := by decide +kernel
theorem dX1_gazeWith_27 : decode cX1_gazeWith 27 = .ok (.iconst 2, 1) := by decide +kernel
theorem dX1_gazeWith_28 : decode cX1_gazeWith 28 = .ok (.iload_n 1, 1) := by decide +kernel
theorem dX1_gazeWith_29 : decode cX1_gazeWith 29 = .ok (.iconst 3, 1) := by decide +kernel
theorem dX1_gazeWith_30 : decode cX1_gazeWith 30 = .ok (.idiv, 1) := by decide +kernel
theorem dX1_gazeWith_31 : decode cX1_gazeWith 31 = .ok (.imul, 1) := by decide +kernel
theorem dX1_gazeWith_32 : decode cX1_gazeWith 32 = .ok (.iadd, 1) := by decide +kernel
theorem dX1_gazeWith_33 : decode cX1_gazeWith 33 = .ok (.goto 7, 3) := by decide +kernel
theorem dX1_gazeWith_36 : decode cX1_gazeWith 36 = .ok (.aload_n 0, 1) := by decide +kernel
theorem dX1_gazeWith_37 : decode cX1_gazeWith 37 = .ok (.getfield 54, 3) := by decide +kernel
theorem dX1_gazeWith_40 : decode cX1_gazeWith 40 = .ok (.ireturn, 1) := by decide +kernel
theorem dX1_costWith_0 : decode cX1_costWith 0 = .ok (.aload_n 0, 1) := by decide +kernel
theorem dX1_costWith_1 : decode cX1_costWith 1 = .ok (.getstatic 10, 3) := by decide +kernel
theorem dX1_costWith_4 : decode cX1_costWith 4 = .ok (.if_acmp .eq 10, 3) := by decide +kernel
theorem dX1_costWith_7 : decode cX1_costWith 7 = .ok (.aload_n 0, 1) := by decide +kernel
theorem dX1_costWith_8 : decode cX1_costWith 8 = .ok (.getstatic 19, 3) := by decide +kernel
theorem dX1_costWith_11 : decode cX1_costWith 11 = .ok (.if_acmp .ne 12, 3) := by decide +kernel
theorem dX1_costWith_14 : decode cX1_costWith 14 = .ok (.aload_n 0, 1) := by decide +kernel
theorem dX1_costWith_15 : decode cX1_costWith 15 = .ok (.getfield 60, 3) := by decide +kernel
theorem dX1_costWith_18 : decode cX1_costWith 18 = .ok (.iload_n 1, 1) := by decide +kernel
theorem dX1_costWith_19 : decode cX1_costWith 19 = .ok (.iadd, 1) := by decide +kernel
theorem dX1_costWith_20 : decode cX1_costWith 20 = .ok (.goto 7, 3) := by decide +kernel
theorem dX1_costWith_23 : decode cX1_costWith 23 = .ok (.aload_n 0, 1) := by decide +kernel
theorem dX1_costWith_24 : decode cX1_costWith 24 = .ok (.getfield 60, 3) := by decide +kernel
theorem dX1_costWith_27 : decode cX1_costWith 27 = .ok (.ireturn, 1) := by decide +kernel
theorem dX1_failWith_0 : decode cX1_failWith 0 = .ok (.iload_n 1, 1) := by decide +kernel
theorem dX1_failWith_1 : decode cX1_failWith 1 = .ok (.ifCond .eq 17, 3) := by decide +kernel
theorem dX1_failWith_4 : decode cX1_failWith 4 = .ok (.aload_n 0, 1) := by decide +kernel
theorem dX1_failWith_5 : decode cX1_failWith 5 = .ok (.getstatic 16, 3) := by decide +kernel
theorem dX1_failWith_8 : decode cX1_failWith 8 = .ok (.if_acmp .eq 10, 3) := by decide +kernel
theorem dX1_failWith_11 : decode cX1_failWith 11 = .ok (.aload_n 0, 1) := by decide +kernel
theorem dX1_failWith_12 : decode cX1_failWith 12 = .ok (.getstatic 25, 3) := by decide +kernel
theorem dX1_failWith_15 : decode cX1_failWith 15 = .ok (.if_acmp .ne 4, 3) := by decide +kernel
theorem dX1_failWith_18 : decode cX1_failWith 18 = .ok (.return_, 1) := by decide +kernel
theorem dX1_failWith_19 : decode cX1_failWith 19 = .ok (.aload_n 0, 1) := by decide +kernel
theorem dX1_failWith_20 : decode cX1_failWith 20 = .ok (.getstatic 19, 3) := by decide +kernel
theorem dX1_failWith_23 : decode cX1_failWith 23 = .ok (.if_acmp .ne 13, 3) := by decide +kernel
theorem dX1_failWith_26 : decode cX1_failWith 26 = .ok (.new 63, 3) := by decide +kernel
theorem dX1_failWith_29 : decode cX1_failWith 29 = .ok (.dup, 1) := by decide +kernel
theorem dX1_failWith_30 : decode cX1_failWith 30 = .ok (.ldc 65, 2) := by decide +kernel
theorem dX1_failWith_32 : decode cX1_failWith 32 = .ok (.invokespecial 67, 3) := by decide +kernel
theorem dX1_failWith_35 : decode cX1_failWith 35 = .ok (.athrow, 1) := by decide +kernel
theorem dX1_failWith_36 : decode cX1_failWith 36 = .ok (.aload_n 0, 1) := by decide +kernel
theorem dX1_failWith_37 : decode cX1_failWith 37 = .ok (.getstatic 13, 3) := by decide +kernel
theorem dX1_failWith_40 : decode cX1_failWith 40 = .ok (.if_acmp .ne 13, 3) := by decide +kernel
theorem dX1_failWith_43 : decode cX1_failWith 43 = .ok (.new 70, 3) := by decide +kernel
theorem dX1_failWith_46 : decode cX1_failWith 46 = .ok (.dup, 1) := by decide +kernel
theorem dX1_failWith_47 : decode cX1_failWith 47 = .ok (.ldc 72, 2) := by decide +kernel
theorem dX1_failWith_49 : decode cX1_failWith 49 = .ok (.invokespecial 74, 3) := by decide +kernel
theorem dX1_failWith_52 : decode cX1_failWith 52 = .ok (.athrow, 1) := by decide +kernel
theorem dX1_failWith_53 : decode cX1_failWith 53 = .ok (.new 75, 3) := by decide +kernel
theorem dX1_failWith_56 : decode cX1_failWith 56 = .ok (.dup, 1) := by decide +kernel
theorem dX1_failWith_57 : decode cX1_failWith 57 = .ok (.ldc 77, 2) := by decide +kernel
theorem dX1_failWith_59 : decode cX1_failWith 59 = .ok (.invokespecial 79, 3) := by decide +kernel
theorem dX1_failWith_62 : decode cX1_failWith 62 = .ok (.athrow, 1) := by decide +kernel
theorem dX2_init_0 : decode cX2_init 0 = .ok (.aload_n 0, 1) := by decide +kernel
theorem dX2_init_1 : decode cX2_init 1 = .ok (.invokespecial 3, 3) := by decide +kernel
theorem dX2_init_4 : decode cX2_init 4 = .ok (.aload_n 0, 1) := by decide +kernel
theorem dX2_init_5 : decode cX2_init 5 = .ok (.bipush 8, 2) := by decide +kernel
theorem dX2_init_7 : decode cX2_init 7 = .ok (.newarray .int, 2) := by decide +kernel
theorem dX2_init_9 : decode cX2_init 9 = .ok (.putfield 9, 3) := by decide +kernel
theorem dX2_init_12 : decode cX2_init 12 = .ok (.aload_n 0, 1) := by decide +kernel
theorem dX2_init_13 : decode cX2_init 13 = .ok (.bipush 64, 2) := by decide +kernel
theorem dX2_init_15 : decode cX2_init 15 = .ok (.newarray .int, 2) := by decide +kernel
theorem dX2_init_17 : decode cX2_init 17 = .ok (.putfield 15, 3) := by decide +kernel
theorem dX2_init_20 : decode cX2_init 20 = .ok (.aload_n 0, 1) := by decide +kernel
theorem dX2_init_21 : decode cX2_init 21 = .ok (.sipush 1280, 3) := by decide +kernel
theorem dX2_init_24 : decode cX2_init 24 = .ok (.newarray .int, 2) := by decide +kernel
theorem dX2_init_26 : decode cX2_init 26 = .ok (.putfield 18, 3) := by decide +kernel
theorem dX2_init_29 : decode cX2_init 29 = .ok (.return_, 1) := by decide +kernel
theorem dX2_find_0 : decode cX2_find 0 = .ok (.aload_n 0, 1) := by decide +kernel
theorem dX2_find_1 : decode cX2_find 1 = .ok (.aload_n 1, 1) := by decide +kernel
theorem dX2_find_2 : decode cX2_find 2 = .ok (.getfield 21, 3) := by decide +kernel
theorem dX2_find_5 : decode cX2_find 5 = .ok (.putfield 27, 3) := by decide +kernel
theorem dX2_find_8 : decode cX2_find 8 = .ok (.aload_n 0, 1) := by decide +kernel
theorem dX2_find_9 : decode cX2_find 9 = .ok (.aload_n 1, 1) := by decide +kernel
theorem dX2_find_10 : decode cX2_find 10 = .ok (.invokevirtual 28, 3) := by decide +kernel
theorem dX2_find_13 : decode cX2_find 13 = .ok (.iconst 1, 1) := by decide +kernel
theorem dX2_find_14 : decode cX2_find 14 = .ok (.aload_n 0, 1) := by decide +kernel
theorem dX2_find_15 : decode cX2_find 15 = .ok (.getfield 27, 3) := by decide +kernel
theorem dX2_find_18 : decode cX2_find 18 = .ok (.ishl, 1) := by decide +kernel
theorem dX2_find_19 : decode cX2_find 19 = .ok (.iconst 1, 1) := by decide +kernel
theorem dX2_find_20 : decode cX2_find 20 = .ok (.isub, 1) := by decide +kernel
theorem dX2_find_21 : decode cX2_find 21 = .ok (.istore_n 2, 1) := by decide +kernel
theorem dX2_find_22 : decode cX2_find 22 = .ok (.aload_n 1, 1) := by decide +kernel
theorem dX2_find_23 : decode cX2_find 23 = .ok (.getfield 32, 3) := by decide +kernel
theorem dX2_find_26 : decode cX2_find 26 = .ok (.aload_n 0, 1) := by decide +kernel
theorem dX2_find_27 : decode cX2_find 27 = .ok (.getfield 27, 3) := by decide +kernel
theorem dX2_find_30 : decode cX2_find 30 = .ok (.iconst 2, 1) := by decide +kernel
theorem dX2_find_31 : decode cX2_find 31 = .ok (.idiv, 1) := by decide +kernel
theorem dX2_find_32 : decode cX2_find 32 = .ok (.invokestatic 35, 3) := by decide +kernel
theorem dX2_find_35 : decode cX2_find 35 = .ok (.istore_n 3, 1) := by decide +kernel
theorem dX2_find_36 : decode cX2_find 36 = .ok (.iconst 0, 1) := by decide +kernel
theorem dX2_find_37 : decode cX2_find 37 = .ok (.istore 4, 2) := by decide +kernel
theorem dX2_find_39 : decode cX2_find 39 = .ok (.iload 4, 2) := by decide +kernel
theorem dX2_find_41 : decode cX2_find 41 = .ok (.iload_n 3, 1) := by decide +kernel
theorem dX2_find_42 : decode cX2_find 42 = .ok (.if_icmp .gt 46, 3) := by decide +kernel
theorem dX2_find_45 : decode cX2_find 45 = .ok (.iconst 0, 1) := by decide +kernel
theorem dX2_find_46 : decode cX2_find 46 = .ok (.istore 5, 2) := by decide +kernel
theorem dX2_find_48 : decode cX2_find 48 = .ok (.iload 5, 2) := by decide +kernel
theorem dX2_find_50 : decode cX2_find 50 = .ok (.iload_n 2, 1) := by decide +kernel
theorem dX2_find_51 : decode cX2_find 51 = .ok (.if_icmp .gt 31, 3) := by decide +kernel
theorem dX2_find_54 : decode cX2_find 54 = .ok (.aload_n 0, 1) := by decide +kernel
theorem dX2_find_55 : decode cX2_find 55 = .ok (.getfield 18, 3) := by decide +kernel
theorem dX2_find_58 : decode cX2_find 58 = .ok (.iload 4, 2) := by decide +kernel
theorem dX2_find_60 : decode cX2_find 60 = .ok (.sipush 256, 3) := by decide +kernel
theorem dX2_find_63 : decode cX2_find 63 = .ok (.imul, 1) := by decide +kernel
theorem dX2_find_64 : decode cX2_find 64 = .ok (.iload 5, 2) := by decide +kernel
theorem dX2_find_66 : decode cX2_find 66 = .ok (.iadd, 1) := by decide +kernel
theorem dX2_find_67 : decode cX2_find 67 = .ok (.aload_n 0, 1) := by decide +kernel
theorem dX2_find_68 : decode cX2_find 68 = .ok (.iload 4, 2) := by decide +kernel
theorem dX2_find_70 : decode cX2_find 70 = .ok (.iload 5, 2) := by decide +kernel
theorem dX2_find_72 : decode cX2_find 72 = .ok (.invokevirtual 41, 3) := by decide +kernel
theorem dX2_find_75 : decode cX2_find 75 = .ok (.iastore, 1) := by decide +kernel
theorem dX2_find_76 : decode cX2_find 76 = .ok (.iinc 5 1, 3) := by decide +kernel
theorem dX2_find_79 : decode cX2_find 79 = .ok (.goto (-31), 3) := by decide +kernel
theorem dX2_find_82 : decode cX2_find 82 = .ok (.iinc 4 1, 3) := by decide +kernel
theorem dX2_find_85 : decode cX2_find 85 = .ok (.goto (-46), 3) := by decide +kernel
theorem dX2_find_88 : decode cX2_find 88 = .ok (.aload_n 0, 1) := by decide +kernel
theorem dX2_find_89 : decode cX2_find 89 = .ok (.aload_n 0, 1) := by decide +kernel
theorem dX2_find_90 : decode cX2_find 90 = .ok (.getfield 18, 3) := by decide +kernel
theorem dX2_find_93 : decode cX2_find 93 = .ok (.iload_n 3, 1) := by decide +kernel
theorem dX2_find_94 : decode cX2_find 94 = .ok (.sipush 256, 3) := by decide +kernel
theorem dX2_find_97 : decode cX2_find 97 = .ok (.imul, 1) := by decide +kernel
theorem dX2_find_98 : decode cX2_find 98 = .ok (.iload_n 2, 1) := by decide +kernel
theorem dX2_find_99 : decode cX2_find 99 = .ok (.iadd, 1) := by decide +kernel
theorem dX2_find_100 : decode cX2_find 100 = .ok (.iaload, 1) := by decide +kernel
theorem dX2_find_101 : decode cX2_find 101 = .ok (.putfield 44, 3) := by decide +kernel
theorem dX2_find_104 : decode cX2_find 104 = .ok (.aload_n 0, 1) := by decide +kernel
theorem dX2_find_105 : decode cX2_find 105 = .ok (.iload_n 3, 1) := by decide +kernel
theorem dX2_find_106 : decode cX2_find 106 = .ok (.iload_n 2, 1) := by decide +kernel
theorem dX2_find_107 : decode cX2_find 107 = .ok (.invokevirtual 47, 3) := by decide +kernel
theorem dX2_find_110 : decode cX2_find 110 = .ok (.return_, 1) := by decide +kernel
theorem dX2_readJoys_0 : decode cX2_readJoys 0 = .ok (.iconst 0, 1) := by decide +kernel
theorem dX2_readJoys_1 : decode cX2_readJoys 1 = .ok (.istore_n 2, 1) := by decide +kernel
theorem dX2_readJoys_2 : decode cX2_readJoys 2 = .ok (.iload_n 2, 1) := by decide +kernel
theorem dX2_readJoys_3 : decode cX2_readJoys 3 = .ok (.aload_n 0, 1) := by decide +kernel
theorem dX2_readJoys_4 : decode cX2_readJoys 4 = .ok (.getfield 27, 3) := by decide +kernel
theorem dX2_readJoys_7 : decode cX2_readJoys 7 = .ok (.if_icmp .ge 60, 3) := by decide +kernel
theorem dX2_readJoys_10 : decode cX2_readJoys 10 = .ok (.iconst 0, 1) := by decide +kernel
theorem dX2_readJoys_11 : decode cX2_readJoys 11 = .ok (.istore_n 3, 1) := by decide +kernel
theorem dX2_readJoys_12 : decode cX2_readJoys 12 = .ok (.iload_n 3, 1) := by decide +kernel
theorem dX2_readJoys_13 : decode cX2_readJoys 13 = .ok (.aload_n 0, 1) := by decide +kernel
theorem dX2_readJoys_14 : decode cX2_readJoys 14 = .ok (.getfield 27, 3) := by decide +kernel
theorem dX2_readJoys_17 : decode cX2_readJoys 17 = .ok (.if_icmp .ge 44, 3) := by decide +kernel
theorem dX2_readJoys_20 : decode cX2_readJoys 20 = .ok (.aload_n 1, 1) := by decide +kernel
theorem dX2_readJoys_21 : decode cX2_readJoys 21 = .ok (.iload_n 2, 1) := by decide +kernel
theorem dX2_readJoys_22 : decode cX2_readJoys 22 = .ok (.iload_n 3, 1) := by decide +kernel
theorem dX2_readJoys_23 : decode cX2_readJoys 23 = .ok (.invokevirtual 51, 3) := by decide +kernel
theorem dX2_readJoys_26 : decode cX2_readJoys 26 = .ok (.ifCond .eq 12, 3) := by decide +kernel
theorem dX2_readJoys_29 : decode cX2_readJoys 29 = .ok (.aload_n 1, 1) := by decide +kernel
theorem dX2_readJoys_30 : decode cX2_readJoys 30 = .ok (.iload_n 2, 1) := by decide +kernel
theorem dX2_readJoys_31 : decode cX2_readJoys 31 = .ok (.iload_n 3, 1) := by decide +kernel
theorem dX2_readJoys_32 : decode cX2_readJoys 32 = .ok (.invokevirtual 55, 3) := by decide +kernel
theorem dX2_readJoys_35 : decode cX2_readJoys 35 = .ok (.goto 5, 3) := by decide +kernel
theorem dX2_readJoys_38 : decode cX2_readJoys 38 = .ok (.bipush (-4), 2) := by decide +kernel
theorem dX2_readJoys_40 : decode cX2_readJoys 40 = .ok (.istore 4, 2) := by decide +kernel
theorem dX2_readJoys_42 : decode cX2_readJoys 42 = .ok (.aload_n 0, 1) := by decide +kernel
theorem dX2_readJoys_43 : decode cX2_readJoys 43 = .ok (.getfield 15, 3) := by decide +kernel
theorem dX2_readJoys_46 : decode cX2_readJoys 46 = .ok (.iload_n 2, 1) := by decide +kernel
theorem dX2_readJoys_47 : decode cX2_readJoys 47 = .ok (.bipush 8, 2) := by decide +kernel
theorem dX2_readJoys_49 : decode cX2_readJoys 49 = .ok (.imul, 1) := by decide +kernel
theorem dX2_readJoys_50 : decode cX2_readJoys 50 = .ok (.iload_n 3, 1) := by decide +kernel
theorem dX2_readJoys_51 : decode cX2_readJoys 51 = .ok (.iadd, 1) := by decide +kernel
theorem dX2_readJoys_52 : decode cX2_readJoys 52 = .ok (.iload 4, 2) := by decide +kernel
theorem dX2_readJoys_54 : decode cX2_readJoys 54 = .ok (.iastore, 1) := by decide +kernel
theorem dX2_readJoys_55 : decode cX2_readJoys 55 = .ok (.iinc 3 1, 3) := by decide +kernel
theorem dX2_readJoys_58 : decode cX2_readJoys 58 = .ok (.goto (-46), 3) := by decide +kernel
theorem dX2_readJoys_61 : decode cX2_readJoys 61 = .ok (.iinc 2 1, 3) := by decide +kernel
theorem dX2_readJoys_64 : decode cX2_readJoys 64 = .ok (.goto (-62), 3) := by decide +kernel
theorem dX2_readJoys_67 : decode cX2_readJoys 67 = .ok (.return_, 1) := by decide +kernel
theorem dX2_mostOf_0 : decode cX2_mostOf 0 = .ok (.iload_n 1, 1) := by decide +kernel
theorem dX2_mostOf_1 : decode cX2_mostOf 1 = .ok (.ifCond .eq 7, 3) := by decide +kernel
theorem dX2_mostOf_4 : decode cX2_mostOf 4 = .ok (.iload_n 2, 1) := by decide +kernel
theorem dX2_mostOf_5 : decode cX2_mostOf 5 = .ok (.ifCond .ne 5, 3) := by decide +kernel
theorem dX2_mostOf_8 : decode cX2_mostOf 8 = .ok (.iconst 0, 1) := by decide +kernel
theorem dX2_mostOf_9 : decode cX2_mostOf 9 = .ok (.ireturn, 1) := by decide +kernel
theorem dX2_mostOf_10 : decode cX2_mostOf 10 = .ok (.aload_n 0, 1) := by decide +kernel
theorem dX2_mostOf_11 : decode cX2_mostOf 11 = .ok (.iload_n 2, 1) := by decide +kernel
theorem dX2_mostOf_12 : decode cX2_mostOf 12 = .ok (.invokevirtual 58, 3) := by decide +kernel
theorem dX2_mostOf_15 : decode cX2_mostOf 15 = .ok (.istore_n 3, 1) := by decide +kernel
theorem dX2_mostOf_16 : decode cX2_mostOf 16 = .ok (.iload_n 2, 1) := by decide +kernel
theorem dX2_mostOf_17 : decode cX2_mostOf 17 = .ok (.iconst 1, 1) := by decide +kernel
theorem dX2_mostOf_18 : decode cX2_mostOf 18 = .ok (.iload_n 3, 1) := by decide +kernel
theorem dX2_mostOf_19 : decode cX2_mostOf 19 = .ok (.ishl, 1) := by decide +kernel
theorem dX2_mostOf_20 : decode cX2_mostOf 20 = .ok (.iconst (-1), 1) := by decide +kernel
theorem dX2_mostOf_21 : decode cX2_mostOf 21 = .ok (.ixor, 1) := by decide +kernel
theorem dX2_mostOf_22 : decode cX2_mostOf 22 = .ok (.iand, 1) := by decide +kernel
theorem dX2_mostOf_23 : decode cX2_mostOf 23 = .ok (.istore 4, 2) := by decide +kernel
theorem dX2_mostOf_25 : decode cX2_mostOf 25 = .ok (.aload_n 0, 1) := by decide +kernel
theorem dX2_mostOf_26 : decode cX2_mostOf 26 = .ok (.getfield 18, 3) := by decide +kernel
theorem dX2_mostOf_29 : decode cX2_mostOf 29 = .ok (.iload_n 1, 1) := by decide +kernel
theorem dX2_mostOf_30 : decode cX2_mostOf 30 = .ok (.sipush 256, 3) := by decide +kernel
theorem dX2_mostOf_33 : decode cX2_mostOf 33 = .ok (.imul, 1) := by decide +kernel
theorem dX2_mostOf_34 : decode cX2_mostOf 34 = .ok (.iload 4, 2) := by decide +kernel
theorem dX2_mostOf_36 : decode cX2_mostOf 36 = .ok (.iadd, 1) := by decide +kernel
theorem dX2_mostOf_37 : decode cX2_mostOf 37 = .ok (.iaload, 1) := by decide +kernel
theorem dX2_mostOf_38 : decode cX2_mostOf 38 = .ok (.istore 5, 2) := by decide +kernel
theorem dX2_mostOf_40 : decode cX2_mostOf 40 = .ok (.iload_n 3, 1) := by decide +kernel
theorem dX2_mostOf_41 : decode cX2_mostOf 41 = .ok (.iconst 1, 1) := by decide +kernel
theorem dX2_mostOf_42 : decode cX2_mostOf 42 = .ok (.iadd, 1) := by decide +kernel
theorem dX2_mostOf_43 : decode cX2_mostOf 43 = .ok (.istore 6, 2) := by decide +kernel
theorem dX2_mostOf_45 : decode cX2_mostOf 45 = .ok (.iload 6, 2) := by decide +kernel
theorem dX2_mostOf_47 : decode cX2_mostOf 47 = .ok (.aload_n 0, 1) := by decide +kernel
theorem dX2_mostOf_48 : decode cX2_mostOf 48 = .ok (.getfield 27, 3) := by decide +kernel
theorem dX2_mostOf_51 : decode cX2_mostOf 51 = .ok (.if_icmp .ge 54, 3) := by decide +kernel
theorem dX2_mostOf_54 : decode cX2_mostOf 54 = .ok (.iload 4, 2) := by decide +kernel
theorem dX2_mostOf_56 : decode cX2_mostOf 56 = .ok (.iload 6, 2) := by decide +kernel
theorem dX2_mostOf_58 : decode cX2_mostOf 58 = .ok (.ishr, 1) := by decide +kernel
theorem dX2_mostOf_59 : decode cX2_mostOf 59 = .ok (.iconst 1, 1) := by decide +kernel
theorem dX2_mostOf_60 : decode cX2_mostOf 60 = .ok (.iand, 1) := by decide +kernel
theorem dX2_mostOf_61 : decode cX2_mostOf 61 = .ok (.iconst 1, 1) := by decide +kernel
theorem dX2_mostOf_62 : decode cX2_mostOf 62 = .ok (.if_icmp .ne 37, 3) := by decide +kernel
theorem dX2_mostOf_65 : decode cX2_mostOf 65 = .ok (.iload 5, 2) := by decide +kernel
theorem dX2_mostOf_67 : decode cX2_mostOf 67 = .ok (.aload_n 0, 1) := by decide +kernel
theorem dX2_mostOf_68 : decode cX2_mostOf 68 = .ok (.iload_n 3, 1) := by decide +kernel
theorem dX2_mostOf_69 : decode cX2_mostOf 69 = .ok (.iload 6, 2) := by decide +kernel
theorem dX2_mostOf_71 : decode cX2_mostOf 71 = .ok (.iload 4, 2) := by decide +kernel
theorem dX2_mostOf_73 : decode cX2_mostOf 73 = .ok (.iload_n 1, 1) := by decide +kernel
theorem dX2_mostOf_74 : decode cX2_mostOf 74 = .ok (.invokevirtual 62, 3) := by decide +kernel
theorem dX2_mostOf_77 : decode cX2_mostOf 77 = .ok (.invokestatic 66, 3) := by decide +kernel
theorem dX2_mostOf_80 : decode cX2_mostOf 80 = .ok (.istore 5, 2) := by decide +kernel
theorem dX2_mostOf_82 : decode cX2_mostOf 82 = .ok (.iload 5, 2) := by decide +kernel
theorem dX2_mostOf_84 : decode cX2_mostOf 84 = .ok (.aload_n 0, 1) := by decide +kernel
theorem dX2_mostOf_85 : decode cX2_mostOf 85 = .ok (.iload 6, 2) := by decide +kernel
theorem dX2_mostOf_87 : decode cX2_mostOf 87 = .ok (.iload_n 3, 1) := by decide +kernel
theorem dX2_mostOf_88 : decode cX2_mostOf 88 = .ok (.iload 4, 2) := by decide +kernel
theorem dX2_mostOf_90 : decode cX2_mostOf 90 = .ok (.iload_n 1, 1) := by decide +kernel
theorem dX2_mostOf_91 : decode cX2_mostOf 91 = .ok (.invokevirtual 62, 3) := by decide +kernel
theorem dX2_mostOf_94 : decode cX2_mostOf 94 = .ok (.invokestatic 66, 3) := by decide +kernel
theorem dX2_mostOf_97 : decode cX2_mostOf 97 = .ok (.istore 5, 2) := by decide +kernel
theorem dX2_mostOf_99 : decode cX2_mostOf 99 = .ok (.iinc 6 1, 3) := by decide +kernel
theorem dX2_mostOf_102 : decode cX2_mostOf 102 = .ok (.goto (-57), 3) := by decide +kernel
theorem dX2_mostOf_105 : decode cX2_mostOf 105 = .ok (.iload 5, 2) := by decide +kernel
theorem dX2_mostOf_107 : decode cX2_mostOf 107 = .ok (.ireturn, 1) := by decide +kernel
theorem dX2_joysIfPaired_0 : decode cX2_joysIfPaired 0 = .ok (.aload_n 0, 1) := by decide +kernel
theorem dX2_joysIfPaired_1 : decode cX2_joysIfPaired 1 = .ok (.getfield 15, 3) := by decide +kernel
theorem dX2_joysIfPaired_4 : decode cX2_joysIfPaired 4 = .ok (.iload_n 1, 1) := by decide +kernel
theorem dX2_joysIfPaired_5 : decode cX2_joysIfPaired 5 = .ok (.bipush 8, 2) := by decide +kernel
theorem dX2_joysIfPaired_7 : decode cX2_joysIfPaired 7 = .ok (.imul, 1) := by decide +kernel
theorem dX2_joysIfPaired_8 : decode cX2_joysIfPaired 8 = .ok (.iload_n 2, 1) := by decide +kernel
theorem dX2_joysIfPaired_9 : decode cX2_joysIfPaired 9 = .ok (.iadd, 1) := by decide +kernel
theorem dX2_joysIfPaired_10 : decode cX2_joysIfPaired 10 = .ok (.iaload, 1) := by decide +kernel
theorem dX2_joysIfPaired_11 : decode cX2_joysIfPaired 11 = .ok (.istore 5, 2) := by decide +kernel
theorem dX2_joysIfPaired_13 : decode cX2_joysIfPaired 13 = .ok (.iload_n 3, 1) := by decide +kernel
theorem dX2_joysIfPaired_14 : decode cX2_joysIfPaired 14 = .ok (.iconst 1, 1) := by decide +kernel
theorem dX2_joysIfPaired_15 : decode cX2_joysIfPaired 15 = .ok (.iload_n 1, 1) := by decide +kernel
theorem dX2_joysIfPaired_16 : decode cX2_joysIfPaired 16 = .ok (.ishl, 1) := by decide +kernel
theorem dX2_joysIfPaired_17 : decode cX2_joysIfPaired 17 = .ok (.iconst (-1), 1) := by decide +kernel
theorem dX2_joysIfPaired_18 : decode cX2_joysIfPaired 18 = .ok (.ixor, 1) := by decide +kernel
theorem dX2_joysIfPaired_19 : decode cX2_joysIfPaired 19 = .ok (.iand, 1) := by decide +kernel
theorem dX2_joysIfPaired_20 : decode cX2_joysIfPaired 20 = .ok (.iconst 1, 1) := by decide +kernel
theorem dX2_joysIfPaired_21 : decode cX2_joysIfPaired 21 = .ok (.iload_n 2, 1) := by decide +kernel
theorem dX2_joysIfPaired_22 : decode cX2_joysIfPaired 22 = .ok (.ishl, 1) := by decide +kernel
theorem dX2_joysIfPaired_23 : decode cX2_joysIfPaired 23 = .ok (.iconst (-1), 1) := by decide +kernel
theorem dX2_joysIfPaired_24 : decode cX2_joysIfPaired 24 = .ok (.ixor, 1) := by decide +kernel
theorem dX2_joysIfPaired_25 : decode cX2_joysIfPaired 25 = .ok (.iand, 1) := by decide +kernel
theorem dX2_joysIfPaired_26 : decode cX2_joysIfPaired 26 = .ok (.istore 6, 2) := by decide +kernel
theorem dX2_joysIfPaired_28 : decode cX2_joysIfPaired 28 = .ok (.iload 5, 2) := by decide +kernel
theorem dX2_joysIfPaired_30 : decode cX2_joysIfPaired 30 = .ok (.ifCond .lt 8, 3) := by decide +kernel
theorem dX2_joysIfPaired_33 : decode cX2_joysIfPaired 33 = .ok (.iload 4, 2) := by decide +kernel
theorem dX2_joysIfPaired_35 : decode cX2_joysIfPaired 35 = .ok (.ifCond .ne 8, 3) := by decide +kernel
theorem dX2_joysIfPaired_38 : decode cX2_joysIfPaired 38 = .ok (.bipush (-4), 2) := by decide +kernel
theorem dX2_joysIfPaired_40 : decode cX2_joysIfPaired 40 = .ok (.goto 22, 3) := by decide +kernel
theorem dX2_joysIfPaired_43 : decode cX2_joysIfPaired 43 = .ok (.iload 5, 2) := by decide +kernel
theorem dX2_joysIfPaired_45 : decode cX2_joysIfPaired 45 = .ok (.aload_n 0, 1) := by decide +kernel
theorem dX2_joysIfPaired_46 : decode cX2_joysIfPaired 46 = .ok (.getfield 18, 3) := by decide +kernel
theorem dX2_joysIfPaired_49 : decode cX2_joysIfPaired 49 = .ok (.iload 4, 2) := by decide +kernel
theorem dX2_joysIfPaired_51 : decode cX2_joysIfPaired 51 = .ok (.iconst 1, 1) := by decide +kernel
theorem dX2_joysIfPaired_52 : decode cX2_joysIfPaired 52 = .ok (.isub, 1) := by decide +kernel
theorem dX2_joysIfPaired_53 : decode cX2_joysIfPaired 53 = .ok (.sipush 256, 3) := by decide +kernel
theorem dX2_joysIfPaired_56 : decode cX2_joysIfPaired 56 = .ok (.imul, 1) := by decide +kernel
theorem dX2_joysIfPaired_57 : decode cX2_joysIfPaired 57 = .ok (.iload 6, 2) := by decide +kernel
theorem dX2_joysIfPaired_59 : decode cX2_joysIfPaired 59 = .ok (.iadd, 1) := by decide +kernel
theorem dX2_joysIfPaired_60 : decode cX2_joysIfPaired 60 = .ok (.iaload, 1) := by decide +kernel
theorem dX2_joysIfPaired_61 : decode cX2_joysIfPaired 61 = .ok (.iadd, 1) := by decide +kernel
theorem dX2_joysIfPaired_62 : decode cX2_joysIfPaired 62 = .ok (.ireturn, 1) := by decide +kernel
theorem dX2_leastOf_0 : decode cX2_leastOf 0 = .ok (.iconst 0, 1) := by decide +kernel
theorem dX2_leastOf_1 : decode cX2_leastOf 1 = .ok (.istore_n 2, 1) := by decide +kernel
theorem dX2_leastOf_2 : decode cX2_leastOf 2 = .ok (.iload_n 2, 1) := by decide +kernel
theorem dX2_leastOf_3 : decode cX2_leastOf 3 = .ok (.bipush 7, 2) := by decide +kernel
theorem dX2_leastOf_5 : decode cX2_leastOf 5 = .ok (.if_icmp .ge 17, 3) := by decide +kernel
theorem dX2_leastOf_8 : decode cX2_leastOf 8 = .ok (.iload_n 1, 1) := by decide +kernel
theorem dX2_leastOf_9 : decode cX2_leastOf 9 = .ok (.iload_n 2, 1) := by decide +kernel
theorem dX2_leastOf_10 : decode cX2_leastOf 10 = .ok (.ishr, 1) := by decide +kernel
theorem dX2_leastOf_11 : decode cX2_leastOf 11 = .ok (.iconst 1, 1) := by decide +kernel
theorem dX2_leastOf_12 : decode cX2_leastOf 12 = .ok (.iand, 1) := by decide +kernel
theorem dX2_leastOf_13 : decode cX2_leastOf 13 = .ok (.ifCond .ne 9, 3) := by decide +kernel
theorem dX2_leastOf_16 : decode cX2_leastOf 16 = .ok (.iinc 2 1, 3) := by decide +kernel
theorem dX2_leastOf_19 : decode cX2_leastOf 19 = .ok (.goto (-17), 3) := by decide +kernel
theorem dX2_leastOf_22 : decode cX2_leastOf 22 = .ok (.iload_n 2, 1) := by decide +kernel
theorem dX2_leastOf_23 : decode cX2_leastOf 23 = .ok (.ireturn, 1) := by decide +kernel
theorem dX2_choose_0 : decode cX2_choose 0 = .ok (.iload_n 2, 1) := by decide +kernel
theorem dX2_choose_1 : decode cX2_choose 1 = .ok (.istore_n 3, 1) := by decide +kernel
theorem dX2_choose_2 : decode cX2_choose 2 = .ok (.iload_n 1, 1) := by decide +kernel
theorem dX2_choose_3 : decode cX2_choose 3 = .ok (.istore 4, 2) := by decide +kernel
theorem dX2_choose_5 : decode cX2_choose 5 = .ok (.iconst 0, 1) := by decide +kernel
theorem dX2_choose_6 : decode cX2_choose 6 = .ok (.istore 5, 2) := by decide +kernel
theorem dX2_choose_8 : decode cX2_choose 8 = .ok (.iload 5, 2) := by decide +kernel
theorem dX2_choose_10 : decode cX2_choose 10 = .ok (.aload_n 0, 1) := by decide +kernel
theorem dX2_choose_11 : decode cX2_choose 11 = .ok (.getfield 27, 3) := by decide +kernel
theorem dX2_choose_14 : decode cX2_choose 14 = .ok (.if_icmp .ge 18, 3) := by decide +kernel
theorem dX2_choose_17 : decode cX2_choose 17 = .ok (.aload_n 0, 1) := by decide +kernel
theorem dX2_choose_18 : decode cX2_choose 18 = .ok (.getfield 9, 3) := by decide +kernel
theorem dX2_choose_21 : decode cX2_choose 21 = .ok (.iload 5, 2) := by decide +kernel
theorem dX2_choose_23 : decode cX2_choose 23 = .ok (.bipush 9, 2) := by decide +kernel
theorem dX2_choose_25 : decode cX2_choose 25 = .ok (.iastore, 1) := by decide +kernel
theorem dX2_choose_26 : decode cX2_choose 26 = .ok (.iinc 5 1, 3) := by decide +kernel
theorem dX2_choose_29 : decode cX2_choose 29 = .ok (.goto (-21), 3) := by decide +kernel
theorem dX2_choose_32 : decode cX2_choose 32 = .ok (.iconst 0, 1) := by decide +kernel
theorem dX2_choose_33 : decode cX2_choose 33 = .ok (.istore 5, 2) := by decide +kernel
theorem dX2_choose_35 : decode cX2_choose 35 = .ok (.iload 5, 2) := by decide +kernel
theorem dX2_choose_37 : decode cX2_choose 37 = .ok (.aload_n 0, 1) := by decide +kernel
theorem dX2_choose_38 : decode cX2_choose 38 = .ok (.getfield 27, 3) := by decide +kernel
theorem dX2_choose_41 : decode cX2_choose 41 = .ok (.if_icmp .ge 119, 3) := by decide +kernel
theorem dX2_choose_44 : decode cX2_choose 44 = .ok (.iload_n 3, 1) := by decide +kernel
theorem dX2_choose_45 : decode cX2_choose 45 = .ok (.iload 5, 2) := by decide +kernel
theorem dX2_choose_47 : decode cX2_choose 47 = .ok (.ishr, 1) := by decide +kernel
theorem dX2_choose_48 : decode cX2_choose 48 = .ok (.iconst 1, 1) := by decide +kernel
theorem dX2_choose_49 : decode cX2_choose 49 = .ok (.iand, 1) := by decide +kernel
theorem dX2_choose_50 : decode cX2_choose 50 = .ok (.ifCond .ne 6, 3) := by decide +kernel
theorem dX2_choose_53 : decode cX2_choose 53 = .ok (.goto 101, 3) := by decide +kernel
theorem dX2_choose_56 : decode cX2_choose 56 = .ok (.aload_n 0, 1) := by decide +kernel
theorem dX2_choose_57 : decode cX2_choose 57 = .ok (.iload 5, 2) := by decide +kernel
theorem dX2_choose_59 : decode cX2_choose 59 = .ok (.iload_n 3, 1) := by decide +kernel
theorem dX2_choose_60 : decode cX2_choose 60 = .ok (.iload 4, 2) := by decide +kernel
theorem dX2_choose_62 : decode cX2_choose 62 = .ok (.iconst 1, 1) := by decide +kernel
theorem dX2_choose_63 : decode cX2_choose 63 = .ok (.invokevirtual 69, 3) := by decide +kernel
theorem dX2_choose_66 : decode cX2_choose 66 = .ok (.istore 6, 2) := by decide +kernel
theorem dX2_choose_68 : decode cX2_choose 68 = .ok (.iload 6, 2) := by decide +kernel
theorem dX2_choose_70 : decode cX2_choose 70 = .ok (.ifCond .lt 8, 3) := by decide +kernel
theorem dX2_choose_73 : decode cX2_choose 73 = .ok (.bipush (-4), 2) := by decide +kernel
theorem dX2_choose_75 : decode cX2_choose 75 = .ok (.goto 13, 3) := by decide +kernel
theorem dX2_choose_78 : decode cX2_choose 78 = .ok (.aload_n 0, 1) := by decide +kernel
theorem dX2_choose_79 : decode cX2_choose 79 = .ok (.iload 5, 2) := by decide +kernel
theorem dX2_choose_81 : decode cX2_choose 81 = .ok (.iload_n 3, 1) := by decide +kernel
theorem dX2_choose_82 : decode cX2_choose 82 = .ok (.iload 4, 2) := by decide +kernel
theorem dX2_choose_84 : decode cX2_choose 84 = .ok (.iconst 0, 1) := by decide +kernel
theorem dX2_choose_85 : decode cX2_choose 85 = .ok (.invokevirtual 69, 3) := by decide +kernel
theorem dX2_choose_88 : decode cX2_choose 88 = .ok (.istore 7, 2) := by decide +kernel
theorem dX2_choose_90 : decode cX2_choose 90 = .ok (.iload_n 3, 1) := by decide +kernel
theorem dX2_choose_91 : decode cX2_choose 91 = .ok (.iconst 1, 1) := by decide +kernel
theorem dX2_choose_92 : decode cX2_choose 92 = .ok (.iload 5, 2) := by decide +kernel
theorem dX2_choose_94 : decode cX2_choose 94 = .ok (.ishl, 1) := by decide +kernel
theorem dX2_choose_95 : decode cX2_choose 95 = .ok (.iconst (-1), 1) := by decide +kernel
theorem dX2_choose_96 : decode cX2_choose 96 = .ok (.ixor, 1) := by decide +kernel
theorem dX2_choose_97 : decode cX2_choose 97 = .ok (.iand, 1) := by decide +kernel
theorem dX2_choose_98 : decode cX2_choose 98 = .ok (.istore_n 3, 1) := by decide +kernel
theorem dX2_choose_99 : decode cX2_choose 99 = .ok (.iload 6, 2) := by decide +kernel
theorem dX2_choose_101 : decode cX2_choose 101 = .ok (.ifCond .lt 27, 3) := by decide +kernel
theorem dX2_choose_104 : decode cX2_choose 104 = .ok (.aload_n 0, 1) := by decide +kernel
theorem dX2_choose_105 : decode cX2_choose 105 = .ok (.getfield 9, 3) := by decide +kernel
theorem dX2_choose_108 : decode cX2_choose 108 = .ok (.iload 5, 2) := by decide +kernel
theorem dX2_choose_110 : decode cX2_choose 110 = .ok (.iload 6, 2) := by decide +kernel
theorem dX2_choose_112 : decode cX2_choose 112 = .ok (.iastore, 1) := by decide +kernel
theorem dX2_choose_113 : decode cX2_choose 113 = .ok (.iload_n 3, 1) := by decide +kernel
theorem dX2_choose_114 : decode cX2_choose 114 = .ok (.iconst 1, 1) := by decide +kernel
theorem dX2_choose_115 : decode cX2_choose 115 = .ok (.iload 6, 2) := by decide +kernel
theorem dX2_choose_117 : decode cX2_choose 117 = .ok (.ishl, 1) := by decide +kernel
theorem dX2_choose_118 : decode cX2_choose 118 = .ok (.iconst (-1), 1) := by decide +kernel
theorem dX2_choose_119 : decode cX2_choose 119 = .ok (.ixor, 1) := by decide +kernel
theorem dX2_choose_120 : decode cX2_choose 120 = .ok (.iand, 1) := by decide +kernel
theorem dX2_choose_121 : decode cX2_choose 121 = .ok (.istore_n 3, 1) := by decide +kernel
theorem dX2_choose_122 : decode cX2_choose 122 = .ok (.iinc 4 (-1), 3) := by decide +kernel
theorem dX2_choose_125 : decode cX2_choose 125 = .ok (.goto 29, 3) := by decide +kernel
theorem dX2_choose_128 : decode cX2_choose 128 = .ok (.iload 7, 2) := by decide +kernel
theorem dX2_choose_130 : decode cX2_choose 130 = .ok (.ifCond .lt 24, 3) := by decide +kernel
theorem dX2_choose_133 : decode cX2_choose 133 = .ok (.aload_n 0, 1) := by decide +kernel
theorem dX2_choose_134 : decode cX2_choose 134 = .ok (.getfield 9, 3) := by decide +kernel
theorem dX2_choose_137 : decode cX2_choose 137 = .ok (.iload 7, 2) := by decide +kernel
theorem dX2_choose_139 : decode cX2_choose 139 = .ok (.iload 5, 2) := by decide +kernel
theorem dX2_choose_141 : decode cX2_choose 141 = .ok (.iastore, 1) := by decide +kernel
theorem dX2_choose_142 : decode cX2_choose 142 = .ok (.iload_n 3, 1) := by decide +kernel
theorem dX2_choose_143 : decode cX2_choose 143 = .ok (.iconst 1, 1) := by decide +kernel
theorem dX2_choose_144 : decode cX2_choose 144 = .ok (.iload 7, 2) := by decide +kernel
theorem dX2_choose_146 : decode cX2_choose 146 = .ok (.ishl, 1) := by decide +kernel
theorem dX2_choose_147 : decode cX2_choose 147 = .ok (.iconst (-1), 1) := by decide +kernel
theorem dX2_choose_148 : decode cX2_choose 148 = .ok (.ixor, 1) := by decide +kernel
theorem dX2_choose_149 : decode cX2_choose 149 = .ok (.iand, 1) := by decide +kernel
theorem dX2_choose_150 : decode cX2_choose 150 = .ok (.istore_n 3, 1) := by decide +kernel
theorem dX2_choose_151 : decode cX2_choose 151 = .ok (.iinc 4 (-1), 3) := by decide +kernel
theorem dX2_choose_154 : decode cX2_choose 154 = .ok (.iinc 5 1, 3) := by decide +kernel
theorem dX2_choose_157 : decode cX2_choose 157 = .ok (.goto (-122), 3) := by decide +kernel
theorem dX2_choose_160 : decode cX2_choose 160 = .ok (.return_, 1) := by decide +kernel
theorem dX2_firstOther_0 : decode cX2_firstOther 0 = .ok (.iload_n 2, 1) := by decide +kernel
theorem dX2_firstOther_1 : decode cX2_firstOther 1 = .ok (.iconst 1, 1) := by decide +kernel
theorem dX2_firstOther_2 : decode cX2_firstOther 2 = .ok (.iload_n 1, 1) := by decide +kernel
theorem dX2_firstOther_3 : decode cX2_firstOther 3 = .ok (.ishl, 1) := by decide +kernel
theorem dX2_firstOther_4 : decode cX2_firstOther 4 = .ok (.iconst (-1), 1) := by decide +kernel
theorem dX2_firstOther_5 : decode cX2_firstOther 5 = .ok (.ixor, 1) := by decide +kernel
theorem dX2_firstOther_6 : decode cX2_firstOther 6 = .ok (.iand, 1) := by decide +kernel
theorem dX2_firstOther_7 : decode cX2_firstOther 7 = .ok (.istore 5, 2) := by decide +kernel
theorem dX2_firstOther_9 : decode cX2_firstOther 9 = .ok (.aload_n 0, 1) := by decide +kernel
theorem dX2_firstOther_10 : decode cX2_firstOther 10 = .ok (.getfield 18, 3) := by decide +kernel
theorem dX2_firstOther_13 : decode cX2_firstOther 13 = .ok (.iload_n 3, 1) := by decide +kernel
theorem dX2_firstOther_14 : decode cX2_firstOther 14 = .ok (.sipush 256, 3) := by decide +kernel
theorem dX2_firstOther_17 : decode cX2_firstOther 17 = .ok (.imul, 1) := by decide +kernel
theorem dX2_firstOther_18 : decode cX2_firstOther 18 = .ok (.iload_n 2, 1) := by decide +kernel
theorem dX2_firstOther_19 : decode cX2_firstOther 19 = .ok (.iadd, 1) := by decide +kernel
theorem dX2_firstOther_20 : decode cX2_firstOther 20 = .ok (.iaload, 1) := by decide +kernel
theorem dX2_firstOther_21 : decode cX2_firstOther 21 = .ok (.istore 6, 2) := by decide +kernel
theorem dX2_firstOther_23 : decode cX2_firstOther 23 = .ok (.iload_n 1, 1) := by decide +kernel
theorem dX2_firstOther_24 : decode cX2_firstOther 24 = .ok (.iconst 1, 1) := by decide +kernel
theorem dX2_firstOther_25 : decode cX2_firstOther 25 = .ok (.iadd, 1) := by decide +kernel
theorem dX2_firstOther_26 : decode cX2_firstOther 26 = .ok (.istore 7, 2) := by decide +kernel
theorem dX2_firstOther_28 : decode cX2_firstOther 28 = .ok (.iload 7, 2) := by decide +kernel
theorem dX2_firstOther_30 : decode cX2_firstOther 30 = .ok (.aload_n 0, 1) := by decide +kernel
theorem dX2_firstOther_31 : decode cX2_firstOther 31 = .ok (.getfield 27, 3) := by decide +kernel
theorem dX2_firstOther_34 : decode cX2_firstOther 34 = .ok (.if_icmp .ge 60, 3) := by decide +kernel
theorem dX2_firstOther_37 : decode cX2_firstOther 37 = .ok (.iload 5, 2) := by decide +kernel
theorem dX2_firstOther_39 : decode cX2_firstOther 39 = .ok (.iload 7, 2) := by decide +kernel
theorem dX2_firstOther_41 : decode cX2_firstOther 41 = .ok (.ishr, 1) := by decide +kernel
theorem dX2_firstOther_42 : decode cX2_firstOther 42 = .ok (.iconst 1, 1) := by decide +kernel
theorem dX2_firstOther_43 : decode cX2_firstOther 43 = .ok (.iand, 1) := by decide +kernel
theorem dX2_firstOther_44 : decode cX2_firstOther 44 = .ok (.iconst 1, 1) := by decide +kernel
theorem dX2_firstOther_45 : decode cX2_firstOther 45 = .ok (.if_icmp .ne 43, 3) := by decide +kernel
theorem dX2_firstOther_48 : decode cX2_firstOther 48 = .ok (.iload 4, 2) := by decide +kernel
theorem dX2_firstOther_50 : decode cX2_firstOther 50 = .ok (.ifCond .eq 16, 3) := by decide +kernel
theorem dX2_firstOther_53 : decode cX2_firstOther 53 = .ok (.aload_n 0, 1) := by decide +kernel
theorem dX2_firstOther_54 : decode cX2_firstOther 54 = .ok (.iload_n 1, 1) := by decide +kernel
theorem dX2_firstOther_55 : decode cX2_firstOther 55 = .ok (.iload 7, 2) := by decide +kernel
theorem dX2_firstOther_57 : decode cX2_firstOther 57 = .ok (.iload 5, 2) := by decide +kernel
theorem dX2_firstOther_59 : decode cX2_firstOther 59 = .ok (.iload_n 3, 1) := by decide +kernel
theorem dX2_firstOther_60 : decode cX2_firstOther 60 = .ok (.invokevirtual 62, 3) := by decide +kernel
theorem dX2_firstOther_63 : decode cX2_firstOther 63 = .ok (.goto 13, 3) := by decide +kernel
theorem dX2_firstOther_66 : decode cX2_firstOther 66 = .ok (.aload_n 0, 1) := by decide +kernel
theorem dX2_firstOther_67 : decode cX2_firstOther 67 = .ok (.iload 7, 2) := by decide +kernel
theorem dX2_firstOther_69 : decode cX2_firstOther 69 = .ok (.iload_n 1, 1) := by decide +kernel
theorem dX2_firstOther_70 : decode cX2_firstOther 70 = .ok (.iload 5, 2) := by decide +kernel
theorem dX2_firstOther_72 : decode cX2_firstOther 72 = .ok (.iload_n 3, 1) := by decide +kernel
theorem dX2_firstOther_73 : decode cX2_firstOther 73 = .ok (.invokevirtual 62, 3) := by decide +kernel
theorem dX2_firstOther_76 : decode cX2_firstOther 76 = .ok (.istore 8, 2) := by decide +kernel
theorem dX2_firstOther_78 : decode cX2_firstOther 78 = .ok (.iload 8, 2) := by decide +kernel
theorem dX2_firstOther_80 : decode cX2_firstOther 80 = .ok (.iload 6, 2) := by decide +kernel
theorem dX2_firstOther_82 : decode cX2_firstOther 82 = .ok (.if_icmp .ne 6, 3) := by decide +kernel
theorem dX2_firstOther_85 : decode cX2_firstOther 85 = .ok (.iload 7, 2) := by decide +kernel
theorem dX2_firstOther_87 : decode cX2_firstOther 87 = .ok (.ireturn, 1) := by decide +kernel
theorem dX2_firstOther_88 : decode cX2_firstOther 88 = .ok (.iinc 7 1, 3) := by decide +kernel
theorem dX2_firstOther_91 : decode cX2_firstOther 91 = .ok (.goto (-63), 3) := by decide +kernel
theorem dX2_firstOther_94 : decode cX2_firstOther 94 = .ok (.bipush (-4), 2) := by decide +kernel
theorem dX2_firstOther_96 : decode cX2_firstOther 96 = .ok (.ireturn, 1) := by decide +kernel
theorem dX3_init_0 : decode cX3_init 0 = .ok (.aload_n 0, 1) := by decide +kernel
theorem dX3_init_1 : decode cX3_init 1 = .ok (.invokespecial 1, 3) := by decide +kernel
theorem dX3_init_4 : decode cX3_init 4 = .ok (.aload_n 0, 1) := by decide +kernel
theorem dX3_init_5 : decode cX3_init 5 = .ok (.getstatic 7, 3) := by decide +kernel
theorem dX3_init_8 : decode cX3_init 8 = .ok (.putfield 13, 3) := by decide +kernel
theorem dX3_init_11 : decode cX3_init 11 = .ok (.return_, 1) := by decide +kernel
theorem dX3_comeAs_0 : decode cX3_comeAs 0 = .ok (.aload_n 0, 1) := by decide +kernel
theorem dX3_comeAs_1 : decode cX3_comeAs 1 = .ok (.aload_n 1, 1) := by decide +kernel
theorem dX3_comeAs_2 : decode cX3_comeAs 2 = .ok (.putfield 13, 3) := by decide +kernel
theorem dX3_comeAs_5 : decode cX3_comeAs 5 = .ok (.aload_n 0, 1) := by decide +kernel
theorem dX3_comeAs_6 : decode cX3_comeAs 6 = .ok (.iload_n 2, 1) := by decide +kernel
theorem dX3_comeAs_7 : decode cX3_comeAs 7 = .ok (.putfield 18, 3) := by decide +kernel
theorem dX3_comeAs_10 : decode cX3_comeAs 10 = .ok (.aload_n 0, 1) := by decide +kernel
theorem dX3_comeAs_11 : decode cX3_comeAs 11 = .ok (.aload_n 1, 1) := by decide +kernel
theorem dX3_comeAs_12 : decode cX3_comeAs 12 = .ok (.iload_n 2, 1) := by decide +kernel
theorem dX3_comeAs_13 : decode cX3_comeAs 13 = .ok (.invokevirtual 22, 3) := by decide +kernel
theorem dX3_comeAs_16 : decode cX3_comeAs 16 = .ok (.putfield 26, 3) := by decide +kernel
theorem dX3_comeAs_19 : decode cX3_comeAs 19 = .ok (.aload_n 0, 1) := by decide +kernel
theorem dX3_comeAs_20 : decode cX3_comeAs 20 = .ok (.aload_n 1, 1) := by decide +kernel
theorem dX3_comeAs_21 : decode cX3_comeAs 21 = .ok (.iload_n 2, 1) := by decide +kernel
theorem dX3_comeAs_22 : decode cX3_comeAs 22 = .ok (.invokevirtual 29, 3) := by decide +kernel
theorem dX3_comeAs_25 : decode cX3_comeAs 25 = .ok (.putfield 32, 3) := by decide +kernel
theorem dX3_comeAs_28 : decode cX3_comeAs 28 = .ok (.aload_n 0, 1) := by decide +kernel
theorem dX3_comeAs_29 : decode cX3_comeAs 29 = .ok (.iconst 0, 1) := by decide +kernel
theorem dX3_comeAs_30 : decode cX3_comeAs 30 = .ok (.putfield 35, 3) := by decide +kernel
theorem dX3_comeAs_33 : decode cX3_comeAs 33 = .ok (.aload_n 0, 1) := by decide +kernel
theorem dX3_comeAs_34 : decode cX3_comeAs 34 = .ok (.iconst 0, 1) := by decide +kernel
theorem dX3_comeAs_35 : decode cX3_comeAs 35 = .ok (.putfield 38, 3) := by decide +kernel
theorem dX3_comeAs_38 : decode cX3_comeAs 38 = .ok (.return_, 1) := by decide +kernel
theorem dX3_becomes_0 : decode cX3_becomes 0 = .ok (.aload_n 0, 1) := by decide +kernel
theorem dX3_becomes_1 : decode cX3_becomes 1 = .ok (.aload_n 1, 1) := by decide +kernel
theorem dX3_becomes_2 : decode cX3_becomes 2 = .ok (.getfield 13, 3) := by decide +kernel
theorem dX3_becomes_5 : decode cX3_becomes 5 = .ok (.putfield 13, 3) := by decide +kernel
theorem dX3_becomes_8 : decode cX3_becomes 8 = .ok (.aload_n 0, 1) := by decide +kernel
theorem dX3_becomes_9 : decode cX3_becomes 9 = .ok (.aload_n 1, 1) := by decide +kernel
theorem dX3_becomes_10 : decode cX3_becomes 10 = .ok (.getfield 18, 3) := by decide +kernel
theorem dX3_becomes_13 : decode cX3_becomes 13 = .ok (.putfield 18, 3) := by decide +kernel
theorem dX3_becomes_16 : decode cX3_becomes 16 = .ok (.aload_n 0, 1) := by decide +kernel
theorem dX3_becomes_17 : decode cX3_becomes 17 = .ok (.aload_n 1, 1) := by decide +kernel
theorem dX3_becomes_18 : decode cX3_becomes 18 = .ok (.getfield 26, 3) := by decide +kernel
theorem dX3_becomes_21 : decode cX3_becomes 21 = .ok (.putfield 26, 3) := by decide +kernel
theorem dX3_becomes_24 : decode cX3_becomes 24 = .ok (.aload_n 0, 1) := by decide +kernel
theorem dX3_becomes_25 : decode cX3_becomes 25 = .ok (.aload_n 1, 1) := by decide +kernel
theorem dX3_becomes_26 : decode cX3_becomes 26 = .ok (.getfield 32, 3) := by decide +kernel
theorem dX3_becomes_29 : decode cX3_becomes 29 = .ok (.putfield 32, 3) := by decide +kernel
theorem dX3_becomes_32 : decode cX3_becomes 32 = .ok (.aload_n 0, 1) := by decide +kernel
theorem dX3_becomes_33 : decode cX3_becomes 33 = .ok (.aload_n 1, 1) := by decide +kernel
theorem dX3_becomes_34 : decode cX3_becomes 34 = .ok (.getfield 41, 3) := by decide +kernel
theorem dX3_becomes_37 : decode cX3_becomes 37 = .ok (.putfield 41, 3) := by decide +kernel
theorem dX3_becomes_40 : decode cX3_becomes 40 = .ok (.aload_n 0, 1) := by decide +kernel
theorem dX3_becomes_41 : decode cX3_becomes 41 = .ok (.aload_n 1, 1) := by decide +kernel
theorem dX3_becomes_42 : decode cX3_becomes 42 = .ok (.getfield 44, 3) := by decide +kernel
theorem dX3_becomes_45 : decode cX3_becomes 45 = .ok (.putfield 44, 3) := by decide +kernel
theorem dX3_becomes_48 : decode cX3_becomes 48 = .ok (.aload_n 0, 1) := by decide +kernel
theorem dX3_becomes_49 : decode cX3_becomes 49 = .ok (.aload_n 1, 1) := by decide +kernel
theorem dX3_becomes_50 : decode cX3_becomes 50 = .ok (.getfield 35, 3) := by decide +kernel
theorem dX3_becomes_53 : decode cX3_becomes 53 = .ok (.putfield 35, 3) := by decide +kernel
theorem dX3_becomes_56 : decode cX3_becomes 56 = .ok (.aload_n 0, 1) := by decide +kernel
theorem dX3_becomes_57 : decode cX3_becomes 57 = .ok (.aload_n 1, 1) := by decide +kernel
theorem dX3_becomes_58 : decode cX3_becomes 58 = .ok (.getfield 38, 3) := by decide +kernel
theorem dX3_becomes_61 : decode cX3_becomes 61 = .ok (.putfield 38, 3) := by decide +kernel
theorem dX3_becomes_64 : decode cX3_becomes 64 = .ok (.return_, 1) := by decide +kernel
theorem dX3_canLook_0 : decode cX3_canLook 0 = .ok (.aload_n 0, 1) := by decide +kernel
theorem dX3_canLook_1 : decode cX3_canLook 1 = .ok (.getfield 35, 3) := by decide +kernel
theorem dX3_canLook_4 : decode cX3_canLook 4 = .ok (.ifCond .ne 17, 3) := by decide +kernel
theorem dX3_canLook_7 : decode cX3_canLook 7 = .ok (.aload_n 0, 1) := by decide +kernel
theorem dX3_canLook_8 : decode cX3_canLook 8 = .ok (.getfield 13, 3) := by decide +kernel
theorem dX3_canLook_11 : decode cX3_canLook 11 = .ok (.getstatic 47, 3) := by decide +kernel
theorem dX3_canLook_14 : decode cX3_canLook 14 = .ok (.if_acmp .eq 7, 3) := by decide +kernel
theorem dX3_canLook_17 : decode cX3_canLook 17 = .ok (.iconst 1, 1) := by decide +kernel
theorem dX3_canLook_18 : decode cX3_canLook 18 = .ok (.goto 4, 3) := by decide +kernel
theorem dX3_canLook_21 : decode cX3_canLook 21 = .ok (.iconst 0, 1) := by decide +kernel
theorem dX3_canLook_22 : decode cX3_canLook 22 = .ok (.ireturn, 1) := by decide +kernel
theorem dX3_stilledHunger_0 : decode cX3_stilledHunger 0 = .ok (.aload_n 0, 1) := by decide +kernel
theorem dX3_stilledHunger_1 : decode cX3_stilledHunger 1 = .ok (.getfield 26, 3) := by decide +kernel
theorem dX3_stilledHunger_4 : decode cX3_stilledHunger 4 = .ok (.aload_n 0, 1) := by decide +kernel
theorem dX3_stilledHunger_5 : decode cX3_stilledHunger 5 = .ok (.getfield 41, 3) := by decide +kernel
theorem dX3_stilledHunger_8 : decode cX3_stilledHunger 8 = .ok (.invokestatic 50, 3) := by decide +kernel
theorem dX3_stilledHunger_11 : decode cX3_stilledHunger 11 = .ok (.ireturn, 1) := by decide +kernel
theorem dX3_stilledWish_0 : decode cX3_stilledWish 0 = .ok (.aload_n 0, 1) := by decide +kernel
theorem dX3_stilledWish_1 : decode cX3_stilledWish 1 = .ok (.getfield 32, 3) := by decide +kernel
theorem dX3_stilledWish_4 : decode cX3_stilledWish 4 = .ok (.aload_n 0, 1) := by decide +kernel
theorem dX3_stilledWish_5 : decode cX3_stilledWish 5 = .ok (.getfield 44, 3) := by decide +kernel
theorem dX3_stilledWish_8 : decode cX3_stilledWish 8 = .ok (.invokestatic 50, 3) := by decide +kernel
theorem dX3_stilledWish_11 : decode cX3_stilledWish 11 = .ok (.ireturn, 1) := by decide +kernel
theorem dX4_init_0 : decode cX4_init 0 = .ok (.aload_n 0, 1) := by decide +kernel
theorem dX4_init_1 : decode cX4_init 1 = .ok (.invokespecial 3, 3) := by decide +kernel
theorem dX4_init_4 : decode cX4_init 4 = .ok (.aload_n 0, 1) := by decide +kernel
theorem dX4_init_5 : decode cX4_init 5 = .ok (.bipush 100, 2) := by decide +kernel
theorem dX4_init_7 : decode cX4_init 7 = .ok (.newarray .int, 2) := by decide +kernel
theorem dX4_init_9 : decode cX4_init 9 = .ok (.putfield 9, 3) := by decide +kernel
theorem dX4_init_12 : decode cX4_init 12 = .ok (.aload_n 0, 1) := by decide +kernel
theorem dX4_init_13 : decode cX4_init 13 = .ok (.iconst 0, 1) := by decide +kernel
theorem dX4_init_14 : decode cX4_init 14 = .ok (.putfield 15, 3) := by decide +kernel
theorem dX4_init_17 : decode cX4_init 17 = .ok (.aload_n 0, 1) := by decide +kernel
theorem dX4_init_18 : decode cX4_init 18 = .ok (.getstatic 19, 3) := by decide +kernel
theorem dX4_init_21 : decode cX4_init 21 = .ok (.putfield 25, 3) := by decide +kernel
theorem dX4_init_24 : decode cX4_init 24 = .ok (.return_, 1) := by decide +kernel
theorem dX4_holdKind_0 : decode cX4_holdKind 0 = .ok (.aload_n 0, 1) := by decide +kernel
theorem dX4_holdKind_1 : decode cX4_holdKind 1 = .ok (.iconst 1, 1) := by decide +kernel
theorem dX4_holdKind_2 : decode cX4_holdKind 2 = .ok (.putfield 15, 3) := by decide +kernel
theorem dX4_holdKind_5 : decode cX4_holdKind 5 = .ok (.aload_n 0, 1) := by decide +kernel
theorem dX4_holdKind_6 : decode cX4_holdKind 6 = .ok (.aload_n 1, 1) := by decide +kernel
theorem dX4_holdKind_7 : decode cX4_holdKind 7 = .ok (.putfield 25, 3) := by decide +kernel
theorem dX4_holdKind_10 : decode cX4_holdKind 10 = .ok (.aload_n 0, 1) := by decide +kernel
theorem dX4_holdKind_11 : decode cX4_holdKind 11 = .ok (.iload_n 2, 1) := by decide +kernel
theorem dX4_holdKind_12 : decode cX4_holdKind 12 = .ok (.putfield 28, 3) := by decide +kernel
theorem dX4_holdKind_15 : decode cX4_holdKind 15 = .ok (.return_, 1) := by decide +kernel
theorem dX4_holdRow_0 : decode cX4_holdRow 0 = .ok (.aload_n 0, 1) := by decide +kernel
theorem dX4_holdRow_1 : decode cX4_holdRow 1 = .ok (.iconst 2, 1) := by decide +kernel
theorem dX4_holdRow_2 : decode cX4_holdRow 2 = .ok (.putfield 15, 3) := by decide +kernel
theorem dX4_holdRow_5 : decode cX4_holdRow 5 = .ok (.aload_n 0, 1) := by decide +kernel
theorem dX4_holdRow_6 : decode cX4_holdRow 6 = .ok (.iload_n 1, 1) := by decide +kernel
theorem dX4_holdRow_7 : decode cX4_holdRow 7 = .ok (.putfield 31, 3) := by decide +kernel
theorem dX4_holdRow_10 : decode cX4_holdRow 10 = .ok (.aload_n 0, 1) := by decide +kernel
theorem dX4_holdRow_11 : decode cX4_holdRow 11 = .ok (.iload_n 2, 1) := by decide +kernel
theorem dX4_holdRow_12 : decode cX4_holdRow 12 = .ok (.putfield 34, 3) := by decide +kernel
theorem dX4_holdRow_15 : decode cX4_holdRow 15 = .ok (.iconst 0, 1) := by decide +kernel
theorem dX4_holdRow_16 : decode cX4_holdRow 16 = .ok (.istore_n 3, 1) := by decide +kernel
theorem dX4_holdRow_17 : decode cX4_holdRow 17 = .ok (.iload_n 3, 1) := by decide +kernel
theorem dX4_holdRow_18 : decode cX4_holdRow 18 = .ok (.bipush 100, 2) := by decide +kernel
theorem dX4_holdRow_20 : decode cX4_holdRow 20 = .ok (.if_icmp .ge 16, 3) := by decide +kernel
theorem dX4_holdRow_23 : decode cX4_holdRow 23 = .ok (.aload_n 0, 1) := by decide +kernel
theorem dX4_holdRow_24 : decode cX4_holdRow 24 = .ok (.getfield 9, 3) := by decide +kernel
theorem dX4_holdRow_27 : decode cX4_holdRow 27 = .ok (.iload_n 3, 1) := by decide +kernel
theorem dX4_holdRow_28 : decode cX4_holdRow 28 = .ok (.iconst 0, 1) := by decide +kernel
theorem dX4_holdRow_29 : decode cX4_holdRow 29 = .ok (.iastore, 1) := by decide +kernel
theorem dX4_holdRow_30 : decode cX4_holdRow 30 = .ok (.iinc 3 1, 3) := by decide +kernel
theorem dX4_holdRow_33 : decode cX4_holdRow 33 = .ok (.goto (-16), 3) := by decide +kernel
theorem dX4_holdRow_36 : decode cX4_holdRow 36 = .ok (.return_, 1) := by decide +kernel
theorem dX4_hasPlace_0 : decode cX4_hasPlace 0 = .ok (.iload_n 1, 1) := by decide +kernel
theorem dX4_hasPlace_1 : decode cX4_hasPlace 1 = .ok (.ifCond .lt 15, 3) := by decide +kernel
theorem dX4_hasPlace_4 : decode cX4_hasPlace 4 = .ok (.iload_n 1, 1) := by decide +kernel
theorem dX4_hasPlace_5 : decode cX4_hasPlace 5 = .ok (.aload_n 0, 1) := by decide +kernel
theorem dX4_hasPlace_6 : decode cX4_hasPlace 6 = .ok (.getfield 34, 3) := by decide +kernel
theorem dX4_hasPlace_9 : decode cX4_hasPlace 9 = .ok (.if_icmp .ge 7, 3) := by decide +kernel
theorem dX4_hasPlace_12 : decode cX4_hasPlace 12 = .ok (.iconst 1, 1) := by decide +kernel
theorem dX4_hasPlace_13 : decode cX4_hasPlace 13 = .ok (.goto 4, 3) := by decide +kernel
theorem dX4_hasPlace_16 : decode cX4_hasPlace 16 = .ok (.iconst 0, 1) := by decide +kernel
theorem dX4_hasPlace_17 : decode cX4_hasPlace 17 = .ok (.ireturn, 1) := by decide +kernel
theorem dX4_hasPlaces_0 : decode cX4_hasPlaces 0 = .ok (.iload_n 1, 1) := by decide +kernel
theorem dX4_hasPlaces_1 : decode cX4_hasPlaces 1 = .ok (.ifCond .lt 29, 3) := by decide +kernel
theorem dX4_hasPlaces_4 : decode cX4_hasPlaces 4 = .ok (.iload_n 2, 1) := by decide +kernel
theorem dX4_hasPlaces_5 : decode cX4_hasPlaces 5 = .ok (.ifCond .lt 25, 3) := by decide +kernel
theorem dX4_hasPlaces_8 : decode cX4_hasPlaces 8 = .ok (.iload_n 1, 1) := by decide +kernel
theorem dX4_hasPlaces_9 : decode cX4_hasPlaces 9 = .ok (.aload_n 0, 1) := by decide +kernel
theorem dX4_hasPlaces_10 : decode cX4_hasPlaces 10 = .ok (.getfield 34, 3) := by decide +kernel
theorem dX4_hasPlaces_13 : decode cX4_hasPlaces 13 = .ok (.if_icmp .gt 17, 3) := by decide +kernel
theorem dX4_hasPlaces_16 : decode cX4_hasPlaces 16 = .ok (.iload_n 2, 1) := by decide +kernel
theorem dX4_hasPlaces_17 : decode cX4_hasPlaces 17 = .ok (.aload_n 0, 1) := by decide +kernel
theorem dX4_hasPlaces_18 : decode cX4_hasPlaces 18 = .ok (.getfield 34, 3) := by decide +kernel
theorem dX4_hasPlaces_21 : decode cX4_hasPlaces 21 = .ok (.iload_n 1, 1) := by decide +kernel
theorem dX4_hasPlaces_22 : decode cX4_hasPlaces 22 = .ok (.isub, 1) := by decide +kernel
theorem dX4_hasPlaces_23 : decode cX4_hasPlaces 23 = .ok (.if_icmp .gt 7, 3) := by decide +kernel
theorem dX4_hasPlaces_26 : decode cX4_hasPlaces 26 = .ok (.iconst 1, 1) := by decide +kernel
theorem dX4_hasPlaces_27 : decode cX4_hasPlaces 27 = .ok (.goto 4, 3) := by decide +kernel
theorem dX4_hasPlaces_30 : decode cX4_hasPlaces 30 = .ok (.iconst 0, 1) := by decide +kernel
theorem dX4_hasPlaces_31 : decode cX4_hasPlaces 31 = .ok (.ireturn, 1) := by decide +kernel
theorem dX4_at_0 : decode cX4_at 0 = .ok (.aload_n 0, 1) := by decide +kernel
theorem dX4_at_1 : decode cX4_at 1 = .ok (.iload_n 1, 1) := by decide +kernel
theorem dX4_at_2 : decode cX4_at 2 = .ok (.invokevirtual 37, 3) := by decide +kernel
theorem dX4_at_5 : decode cX4_at 5 = .ok (.ifCond .eq 12, 3) := by decide +kernel
theorem dX4_at_8 : decode cX4_at 8 = .ok (.aload_n 0, 1) := by decide +kernel
theorem dX4_at_9 : decode cX4_at 9 = .ok (.getfield 9, 3) := by decide +kernel
theorem dX4_at_12 : decode cX4_at 12 = .ok (.iload_n 1, 1) := by decide +kernel
theorem dX4_at_13 : decode cX4_at 13 = .ok (.iaload, 1) := by decide +kernel
theorem dX4_at_14 : decode cX4_at 14 = .ok (.goto 4, 3) := by decide +kernel
theorem dX4_at_17 : decode cX4_at 17 = .ok (.iconst (-1), 1) := by decide +kernel
theorem dX4_at_18 : decode cX4_at 18 = .ok (.ireturn, 1) := by decide +kernel
theorem dX4_digitAt_0 : decode cX4_digitAt 0 = .ok (.aload_n 0, 1) := by decide +kernel
theorem dX4_digitAt_1 : decode cX4_digitAt 1 = .ok (.iload_n 1, 1) := by decide +kernel
theorem dX4_digitAt_2 : decode cX4_digitAt 2 = .ok (.invokevirtual 41, 3) := by decide +kernel
theorem dX4_digitAt_5 : decode cX4_digitAt 5 = .ok (.bipush 48, 2) := by decide +kernel
theorem dX4_digitAt_7 : decode cX4_digitAt 7 = .ok (.isub, 1) := by decide +kernel
theorem dX4_digitAt_8 : decode cX4_digitAt 8 = .ok (.ireturn, 1) := by decide +kernel
theorem dX4_twoDigitsAt_0 : decode cX4_twoDigitsAt 0 = .ok (.bipush 10, 2) := by decide +kernel
theorem dX4_twoDigitsAt_2 : decode cX4_twoDigitsAt 2 = .ok (.aload_n 0, 1) := by decide +kernel
theorem dX4_twoDigitsAt_3 : decode cX4_twoDigitsAt 3 = .ok (.iload_n 1, 1) := by decide +kernel
theorem dX4_twoDigitsAt_4 : decode cX4_twoDigitsAt 4 = .ok (.invokevirtual 45, 3) := by decide +kernel
theorem dX4_twoDigitsAt_7 : decode cX4_twoDigitsAt 7 = .ok (.imul, 1) := by decide +kernel
theorem dX4_twoDigitsAt_8 : decode cX4_twoDigitsAt 8 = .ok (.aload_n 0, 1) := by decide +kernel
theorem dX4_twoDigitsAt_9 : decode cX4_twoDigitsAt 9 = .ok (.iload_n 1, 1) := by decide +kernel
theorem dX4_twoDigitsAt_10 : decode cX4_twoDigitsAt 10 = .ok (.iconst 1, 1) := by decide +kernel
theorem dX4_twoDigitsAt_11 : decode cX4_twoDigitsAt 11 = .ok (.iadd, 1) := by decide +kernel
theorem dX4_twoDigitsAt_12 : decode cX4_twoDigitsAt 12 = .ok (.invokevirtual 45, 3) := by decide +kernel
theorem dX4_twoDigitsAt_15 : decode cX4_twoDigitsAt 15 = .ok (.iadd, 1) := by decide +kernel
theorem dX4_twoDigitsAt_16 : decode cX4_twoDigitsAt 16 = .ok (.ireturn, 1) := by decide +kernel
theorem dX4_lowestBits_0 : decode cX4_lowestBits 0 = .ok (.aload_n 0, 1) := by decide +kernel
theorem dX4_lowestBits_1 : decode cX4_lowestBits 1 = .ok (.getfield 31, 3) := by decide +kernel
theorem dX4_lowestBits_4 : decode cX4_lowestBits 4 = .ok (.ifCond .ne 6, 3) := by decide +kernel
theorem dX4_lowestBits_7 : decode cX4_lowestBits 7 = .ok (.iload_n 1, 1) := by decide +kernel
theorem dX4_lowestBits_8 : decode cX4_lowestBits 8 = .ok (.i2b, 1) := by decide +kernel
theorem dX4_lowestBits_9 : decode cX4_lowestBits 9 = .ok (.ireturn, 1) := by decide +kernel
theorem dX4_lowestBits_10 : decode cX4_lowestBits 10 = .ok (.aload_n 0, 1) := by decide +kernel
theorem dX4_lowestBits_11 : decode cX4_lowestBits 11 = .ok (.getfield 31, 3) := by decide +kernel
theorem dX4_lowestBits_14 : decode cX4_lowestBits 14 = .ok (.iconst 1, 1) := by decide +kernel
theorem dX4_lowestBits_15 : decode cX4_lowestBits 15 = .ok (.if_icmp .ne 8, 3) := by decide +kernel
theorem dX4_lowestBits_18 : decode cX4_lowestBits 18 = .ok (.iload_n 1, 1) := by decide +kernel
theorem dX4_lowestBits_19 : decode cX4_lowestBits 19 = .ok (.i2s, 1) := by decide +kernel
theorem dX4_lowestBits_20 : decode cX4_lowestBits 20 = .ok (.goto 4, 3) := by decide +kernel
theorem dX4_lowestBits_23 : decode cX4_lowestBits 23 = .ok (.iload_n 1, 1) := by decide +kernel
theorem dX4_lowestBits_24 : decode cX4_lowestBits 24 = .ok (.ireturn, 1) := by decide +kernel
theorem dX4_leastNumber_0 : decode cX4_leastNumber 0 = .ok (.aload_n 0, 1) := by decide +kernel
theorem dX4_leastNumber_1 : decode cX4_leastNumber 1 = .ok (.getfield 31, 3) := by decide +kernel
theorem dX4_leastNumber_4 : decode cX4_leastNumber 4 = .ok (.ifCond .ne 6, 3) := by decide +kernel
theorem dX4_leastNumber_7 : decode cX4_leastNumber 7 = .ok (.bipush (-128), 2) := by decide +kernel
theorem dX4_leastNumber_9 : decode cX4_leastNumber 9 = .ok (.ireturn, 1) := by decide +kernel
theorem dX4_leastNumber_10 : decode cX4_leastNumber 10 = .ok (.aload_n 0, 1) := by decide +kernel
theorem dX4_leastNumber_11 : decode cX4_leastNumber 11 = .ok (.getfield 31, 3) := by decide +kernel
theorem dX4_leastNumber_14 : decode cX4_leastNumber 14 = .ok (.iconst 1, 1) := by decide +kernel
theorem dX4_leastNumber_15 : decode cX4_leastNumber 15 = .ok (.if_icmp .ne 9, 3) := by decide +kernel
theorem dX4_leastNumber_18 : decode cX4_leastNumber 18 = .ok (.sipush (-32768), 3) := by decide +kernel
theorem dX4_leastNumber_21 : decode cX4_leastNumber 21 = .ok (.goto 5, 3) := by decide +kernel
theorem dX4_leastNumber_24 : decode cX4_leastNumber 24 = .ok (.ldc 48, 2) := by decide +kernel
theorem dX4_leastNumber_26 : decode cX4_leastNumber 26 = .ok (.ireturn, 1) := by decide +kernel
theorem dJ6_bitCount_0f7a4_0 : decode cJ6_bitCount_0f7a4 0 = .ok (.iload_n 0, 1) := by decide +kernel
theorem dJ6_bitCount_0f7a4_1 : decode cJ6_bitCount_0f7a4 1 = .ok (.iload_n 0, 1) := by decide +kernel
theorem dJ6_bitCount_0f7a4_2 : decode cJ6_bitCount_0f7a4 2 = .ok (.iconst 1, 1) := by decide +kernel
theorem dJ6_bitCount_0f7a4_3 : decode cJ6_bitCount_0f7a4 3 = .ok (.iushr, 1) := by decide +kernel
theorem dJ6_bitCount_0f7a4_4 : decode cJ6_bitCount_0f7a4 4 = .ok (.ldc_w 265, 3) := by decide +kernel
theorem dJ6_bitCount_0f7a4_7 : decode cJ6_bitCount_0f7a4 7 = .ok (.iand, 1) := by decide +kernel
theorem dJ6_bitCount_0f7a4_8 : decode cJ6_bitCount_0f7a4 8 = .ok (.isub, 1) := by decide +kernel
theorem dJ6_bitCount_0f7a4_9 : decode cJ6_bitCount_0f7a4 9 = .ok (.istore_n 0, 1) := by decide +kernel
theorem dJ6_bitCount_0f7a4_10 : decode cJ6_bitCount_0f7a4 10 = .ok (.iload_n 0, 1) := by decide +kernel
theorem dJ6_bitCount_0f7a4_11 : decode cJ6_bitCount_0f7a4 11 = .ok (.ldc_w 266, 3) := by decide +kernel
theorem dJ6_bitCount_0f7a4_14 : decode cJ6_bitCount_0f7a4 14 = .ok (.iand, 1) := by decide +kernel
theorem dJ6_bitCount_0f7a4_15 : decode cJ6_bitCount_0f7a4 15 = .ok (.iload_n 0, 1) := by decide +kernel
theorem dJ6_bitCount_0f7a4_16 : decode cJ6_bitCount_0f7a4 16 = .ok (.iconst 2, 1) := by decide +kernel
theorem dJ6_bitCount_0f7a4_17 : decode cJ6_bitCount_0f7a4 17 = .ok (.iushr, 1) := by decide +kernel
theorem dJ6_bitCount_0f7a4_18 : decode cJ6_bitCount_0f7a4 18 = .ok (.ldc_w 266, 3) := by decide +kernel
theorem dJ6_bitCount_0f7a4_21 : decode cJ6_bitCount_0f7a4 21 = .ok (.iand, 1) := by decide +kernel
theorem dJ6_bitCount_0f7a4_22 : decode cJ6_bitCount_0f7a4 22 = .ok (.iadd, 1) := by decide +kernel
theorem dJ6_bitCount_0f7a4_23 : decode cJ6_bitCount_0f7a4 23 = .ok (.istore_n 0, 1) := by decide +kernel
theorem dJ6_bitCount_0f7a4_24 : decode cJ6_bitCount_0f7a4 24 = .ok (.iload_n 0, 1) := by decide +kernel
theorem dJ6_bitCount_0f7a4_25 : decode cJ6_bitCount_0f7a4 25 = .ok (.iload_n 0, 1) := by decide +kernel
theorem dJ6_bitCount_0f7a4_26 : decode cJ6_bitCount_0f7a4 26 = .ok (.iconst 4, 1) := by decide +kernel
theorem dJ6_bitCount_0f7a4_27 : decode cJ6_bitCount_0f7a4 27 = .ok (.iushr, 1) := by decide +kernel
theorem dJ6_bitCount_0f7a4_28 : decode cJ6_bitCount_0f7a4 28 = .ok (.iadd, 1) := by decide +kernel
theorem dJ6_bitCount_0f7a4_29 : decode cJ6_bitCount_0f7a4 29 = .ok (.ldc_w 267, 3) := by decide +kernel
theorem dJ6_bitCount_0f7a4_32 : decode cJ6_bitCount_0f7a4 32 = .ok (.iand, 1) := by decide +kernel
theorem dJ6_bitCount_0f7a4_33 : decode cJ6_bitCount_0f7a4 33 = .ok (.istore_n 0, 1) := by decide +kernel
theorem dJ6_bitCount_0f7a4_34 : decode cJ6_bitCount_0f7a4 34 = .ok (.iload_n 0, 1) := by decide +kernel
theorem dJ6_bitCount_0f7a4_35 : decode cJ6_bitCount_0f7a4 35 = .ok (.iload_n 0, 1) := by decide +kernel
theorem dJ6_bitCount_0f7a4_36 : decode cJ6_bitCount_0f7a4 36 = .ok (.bipush 8, 2) := by decide +kernel
theorem dJ6_bitCount_0f7a4_38 : decode cJ6_bitCount_0f7a4 38 = .ok (.iushr, 1) := by decide +kernel
theorem dJ6_bitCount_0f7a4_39 : decode cJ6_bitCount_0f7a4 39 = .ok (.iadd, 1) := by decide +kernel
theorem dJ6_bitCount_0f7a4_40 : decode cJ6_bitCount_0f7a4 40 = .ok (.istore_n 0, 1) := by decide +kernel
theorem dJ6_bitCount_0f7a4_41 : decode cJ6_bitCount_0f7a4 41 = .ok (.iload_n 0, 1) := by decide +kernel
theorem dJ6_bitCount_0f7a4_42 : decode cJ6_bitCount_0f7a4 42 = .ok (.iload_n 0, 1) := by decide +kernel
theorem dJ6_bitCount_0f7a4_43 : decode cJ6_bitCount_0f7a4 43 = .ok (.bipush 16, 2) := by decide +kernel
theorem dJ6_bitCount_0f7a4_45 : decode cJ6_bitCount_0f7a4 45 = .ok (.iushr, 1) := by decide +kernel
theorem dJ6_bitCount_0f7a4_46 : decode cJ6_bitCount_0f7a4 46 = .ok (.iadd, 1) := by decide +kernel
theorem dJ6_bitCount_0f7a4_47 : decode cJ6_bitCount_0f7a4 47 = .ok (.istore_n 0, 1) := by decide +kernel
theorem dJ6_bitCount_0f7a4_48 : decode cJ6_bitCount_0f7a4 48 = .ok (.iload_n 0, 1) := by decide +kernel
theorem dJ6_bitCount_0f7a4_49 : decode cJ6_bitCount_0f7a4 49 = .ok (.bipush 63, 2) := by decide +kernel
theorem dJ6_bitCount_0f7a4_51 : decode cJ6_bitCount_0f7a4 51 = .ok (.iand, 1) := by decide +kernel
theorem dJ6_bitCount_0f7a4_52 : decode cJ6_bitCount_0f7a4 52 = .ok (.ireturn, 1) := by decide +kernel
theorem dJ9_max_7cf53_0 : decode cJ9_max_7cf53 0 = .ok (.iload_n 0, 1) := by decide +kernel
theorem dJ9_max_7cf53_1 : decode cJ9_max_7cf53 1 = .ok (.iload_n 1, 1) := by decide +kernel
theorem dJ9_max_7cf53_2 : decode cJ9_max_7cf53 2 = .ok (.if_icmp .lt 7, 3) := by decide +kernel
theorem dJ9_max_7cf53_5 : decode cJ9_max_7cf53 5 = .ok (.iload_n 0, 1) := by decide +kernel
theorem dJ9_max_7cf53_6 : decode cJ9_max_7cf53 6 = .ok (.goto 4, 3) := by decide +kernel
theorem dJ9_max_7cf53_9 : decode cJ9_max_7cf53 9 = .ok (.iload_n 1, 1) := by decide +kernel
theorem dJ9_max_7cf53_10 : decode cJ9_max_7cf53 10 = .ok (.ireturn, 1) := by decide +kernel
theorem dJ9_max_f86c9_0 : decode cJ9_max_f86c9 0 = .ok (.lload_n 0, 1) := by decide +kernel
theorem dJ9_max_f86c9_1 : decode cJ9_max_f86c9 1 = .ok (.lload_n 2, 1) := by decide +kernel
theorem dJ9_max_f86c9_2 : decode cJ9_max_f86c9 2 = .ok (.lcmp, 1) := by decide +kernel
theorem dJ9_max_f86c9_3 : decode cJ9_max_f86c9 3 = .ok (.ifCond .lt 7, 3) := by decide +kernel
theorem dJ9_max_f86c9_6 : decode cJ9_max_f86c9 6 = .ok (.lload_n 0, 1) := by decide +kernel
theorem dJ9_max_f86c9_7 : decode cJ9_max_f86c9 7 = .ok (.goto 4, 3) := by decide +kernel
theorem dJ9_max_f86c9_10 : decode cJ9_max_f86c9 10 = .ok (.lload_n 2, 1) := by decide +kernel
theorem dJ9_max_f86c9_11 : decode cJ9_max_f86c9 11 = .ok (.lreturn, 1) := by decide +kernel
theorem dJ9_min_7cf53_0 : decode cJ9_min_7cf53 0 = .ok (.iload_n 0, 1) := by decide +kernel
theorem dJ9_min_7cf53_1 : decode cJ9_min_7cf53 1 = .ok (.iload_n 1, 1) := by decide +kernel
theorem dJ9_min_7cf53_2 : decode cJ9_min_7cf53 2 = .ok (.if_icmp .gt 7, 3) := by decide +kernel
theorem dJ9_min_7cf53_5 : decode cJ9_min_7cf53 5 = .ok (.iload_n 0, 1) := by decide +kernel
theorem dJ9_min_7cf53_6 : decode cJ9_min_7cf53 6 = .ok (.goto 4, 3) := by decide +kernel
theorem dJ9_min_7cf53_9 : decode cJ9_min_7cf53 9 = .ok (.iload_n 1, 1) := by decide +kernel
theorem dJ9_min_7cf53_10 : decode cJ9_min_7cf53 10 = .ok (.ireturn, 1) := by decide +kernel
