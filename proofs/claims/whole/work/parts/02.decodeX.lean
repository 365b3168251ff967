theorem dX0_waysOfSoMany_0 : decode cX0_waysOfSoMany 0 = .ok (.iconst 0, 1) := by decide +kernel
theorem dX0_waysOfSoMany_1 : decode cX0_waysOfSoMany 1 = .ok (.istore_n 3, 1) := by decide +kernel
theorem dX0_waysOfSoMany_2 : decode cX0_waysOfSoMany 2 = .ok (.iload_n 1, 1) := by decide +kernel
theorem dX0_waysOfSoMany_3 : decode cX0_waysOfSoMany 3 = .ok (.istore 4, 2) := by decide +kernel
theorem dX0_waysOfSoMany_5 : decode cX0_waysOfSoMany 5 = .ok (.iload 4, 2) := by decide +kernel
theorem dX0_waysOfSoMany_7 : decode cX0_waysOfSoMany 7 = .ok (.iload_n 0, 1) := by decide +kernel
theorem dX0_waysOfSoMany_8 : decode cX0_waysOfSoMany 8 = .ok (.if_icmp .gt 37, 3) := by decide +kernel
theorem dX0_waysOfSoMany_11 : decode cX0_waysOfSoMany 11 = .ok (.iload_n 3, 1) := by decide +kernel
theorem dX0_waysOfSoMany_12 : decode cX0_waysOfSoMany 12 = .ok (.iload_n 0, 1) := by decide +kernel
theorem dX0_waysOfSoMany_13 : decode cX0_waysOfSoMany 13 = .ok (.iload 4, 2) := by decide +kernel
theorem dX0_waysOfSoMany_15 : decode cX0_waysOfSoMany 15 = .ok (.invokestatic 7, 3) := by decide +kernel
theorem dX0_waysOfSoMany_18 : decode cX0_waysOfSoMany 18 = .ok (.iload_n 2, 1) := by decide +kernel
theorem dX0_waysOfSoMany_19 : decode cX0_waysOfSoMany 19 = .ok (.iload 4, 2) := by decide +kernel
theorem dX0_waysOfSoMany_21 : decode cX0_waysOfSoMany 21 = .ok (.invokestatic 13, 3) := by decide +kernel
theorem dX0_waysOfSoMany_24 : decode cX0_waysOfSoMany 24 = .ok (.imul, 1) := by decide +kernel
theorem dX0_waysOfSoMany_25 : decode cX0_waysOfSoMany 25 = .ok (.bipush 10, 2) := by decide +kernel
theorem dX0_waysOfSoMany_27 : decode cX0_waysOfSoMany 27 = .ok (.iload_n 2, 1) := by decide +kernel
theorem dX0_waysOfSoMany_28 : decode cX0_waysOfSoMany 28 = .ok (.isub, 1) := by decide +kernel
theorem dX0_waysOfSoMany_29 : decode cX0_waysOfSoMany 29 = .ok (.iload_n 0, 1) := by decide +kernel
theorem dX0_waysOfSoMany_30 : decode cX0_waysOfSoMany 30 = .ok (.iload 4, 2) := by decide +kernel
theorem dX0_waysOfSoMany_32 : decode cX0_waysOfSoMany 32 = .ok (.isub, 1) := by decide +kernel
theorem dX0_waysOfSoMany_33 : decode cX0_waysOfSoMany 33 = .ok (.invokestatic 13, 3) := by decide +kernel
theorem dX0_waysOfSoMany_36 : decode cX0_waysOfSoMany 36 = .ok (.imul, 1) := by decide +kernel
theorem dX0_waysOfSoMany_37 : decode cX0_waysOfSoMany 37 = .ok (.iadd, 1) := by decide +kernel
theorem dX0_waysOfSoMany_38 : decode cX0_waysOfSoMany 38 = .ok (.istore_n 3, 1) := by decide +kernel
theorem dX0_waysOfSoMany_39 : decode cX0_waysOfSoMany 39 = .ok (.iinc 4 1, 3) := by decide +kernel
theorem dX0_waysOfSoMany_42 : decode cX0_waysOfSoMany 42 = .ok (.goto (-37), 3) := by decide +kernel
theorem dX0_waysOfSoMany_45 : decode cX0_waysOfSoMany 45 = .ok (.iload_n 3, 1) := by decide +kernel
theorem dX0_waysOfSoMany_46 : decode cX0_waysOfSoMany 46 = .ok (.ireturn, 1) := by decide +kernel
theorem dX0_choose_0 : decode cX0_choose 0 = .ok (.iconst 1, 1) := by decide +kernel
theorem dX0_choose_1 : decode cX0_choose 1 = .ok (.istore_n 2, 1) := by decide +kernel
theorem dX0_choose_2 : decode cX0_choose 2 = .ok (.iconst 1, 1) := by decide +kernel
theorem dX0_choose_3 : decode cX0_choose 3 = .ok (.istore_n 3, 1) := by decide +kernel
theorem dX0_choose_4 : decode cX0_choose 4 = .ok (.iload_n 3, 1) := by decide +kernel
theorem dX0_choose_5 : decode cX0_choose 5 = .ok (.iload_n 1, 1) := by decide +kernel
theorem dX0_choose_6 : decode cX0_choose 6 = .ok (.if_icmp .gt 19, 3) := by decide +kernel
theorem dX0_choose_9 : decode cX0_choose 9 = .ok (.iload_n 2, 1) := by decide +kernel
theorem dX0_choose_10 : decode cX0_choose 10 = .ok (.iload_n 0, 1) := by decide +kernel
theorem dX0_choose_11 : decode cX0_choose 11 = .ok (.iload_n 3, 1) := by decide +kernel
theorem dX0_choose_12 : decode cX0_choose 12 = .ok (.isub, 1) := by decide +kernel
theorem dX0_choose_13 : decode cX0_choose 13 = .ok (.iconst 1, 1) := by decide +kernel
theorem dX0_choose_14 : decode cX0_choose 14 = .ok (.iadd, 1) := by decide +kernel
theorem dX0_choose_15 : decode cX0_choose 15 = .ok (.imul, 1) := by decide +kernel
theorem dX0_choose_16 : decode cX0_choose 16 = .ok (.iload_n 3, 1) := by decide +kernel
theorem dX0_choose_17 : decode cX0_choose 17 = .ok (.idiv, 1) := by decide +kernel
theorem dX0_choose_18 : decode cX0_choose 18 = .ok (.istore_n 2, 1) := by decide +kernel
theorem dX0_choose_19 : decode cX0_choose 19 = .ok (.iinc 3 1, 3) := by decide +kernel
theorem dX0_choose_22 : decode cX0_choose 22 = .ok (.goto (-18), 3) := by decide +kernel
theorem dX0_choose_25 : decode cX0_choose 25 = .ok (.iload_n 2, 1) := by decide +kernel
theorem dX0_choose_26 : decode cX0_choose 26 = .ok (.ireturn, 1) := by decide +kernel
theorem dX0_power_0 : decode cX0_power 0 = .ok (.iconst 1, 1) := by decide +kernel
theorem dX0_power_1 : decode cX0_power 1 = .ok (.istore_n 2, 1) := by decide +kernel
theorem dX0_power_2 : decode cX0_power 2 = .ok (.iconst 0, 1) := by decide +kernel
theorem dX0_power_3 : decode cX0_power 3 = .ok (.istore_n 3, 1) := by decide +kernel
theorem dX0_power_4 : decode cX0_power 4 = .ok (.iload_n 3, 1) := by decide +kernel
theorem dX0_power_5 : decode cX0_power 5 = .ok (.iload_n 1, 1) := by decide +kernel
theorem dX0_power_6 : decode cX0_power 6 = .ok (.if_icmp .ge 13, 3) := by decide +kernel
theorem dX0_power_9 : decode cX0_power 9 = .ok (.iload_n 2, 1) := by decide +kernel
theorem dX0_power_10 : decode cX0_power 10 = .ok (.iload_n 0, 1) := by decide +kernel
theorem dX0_power_11 : decode cX0_power 11 = .ok (.imul, 1) := by decide +kernel
theorem dX0_power_12 : decode cX0_power 12 = .ok (.istore_n 2, 1) := by decide +kernel
theorem dX0_power_13 : decode cX0_power 13 = .ok (.iinc 3 1, 3) := by decide +kernel
theorem dX0_power_16 : decode cX0_power 16 = .ok (.goto (-12), 3) := by decide +kernel
theorem dX0_power_19 : decode cX0_power 19 = .ok (.iload_n 2, 1) := by decide +kernel
theorem dX0_power_20 : decode cX0_power 20 = .ok (.ireturn, 1) := by decide +kernel
theorem dX0_commonDivisor_0 : decode cX0_commonDivisor 0 = .ok (.iload_n 0, 1) := by decide +kernel
theorem dX0_commonDivisor_1 : decode cX0_commonDivisor 1 = .ok (.istore_n 2, 1) := by decide +kernel
theorem dX0_commonDivisor_2 : decode cX0_commonDivisor 2 = .ok (.iload_n 1, 1) := by decide +kernel
theorem dX0_commonDivisor_3 : decode cX0_commonDivisor 3 = .ok (.istore_n 3, 1) := by decide +kernel
theorem dX0_commonDivisor_4 : decode cX0_commonDivisor 4 = .ok (.iconst 0, 1) := by decide +kernel
theorem dX0_commonDivisor_5 : decode cX0_commonDivisor 5 = .ok (.istore 4, 2) := by decide +kernel
theorem dX0_commonDivisor_7 : decode cX0_commonDivisor 7 = .ok (.iload 4, 2) := by decide +kernel
theorem dX0_commonDivisor_9 : decode cX0_commonDivisor 9 = .ok (.bipush 50, 2) := by decide +kernel
theorem dX0_commonDivisor_11 : decode cX0_commonDivisor 11 = .ok (.if_icmp .ge 23, 3) := by decide +kernel
theorem dX0_commonDivisor_14 : decode cX0_commonDivisor 14 = .ok (.iload_n 3, 1) := by decide +kernel
theorem dX0_commonDivisor_15 : decode cX0_commonDivisor 15 = .ok (.ifCond .eq 19, 3) := by decide +kernel
theorem dX0_commonDivisor_18 : decode cX0_commonDivisor 18 = .ok (.iload_n 2, 1) := by decide +kernel
theorem dX0_commonDivisor_19 : decode cX0_commonDivisor 19 = .ok (.iload_n 3, 1) := by decide +kernel
theorem dX0_commonDivisor_20 : decode cX0_commonDivisor 20 = .ok (.irem, 1) := by decide +kernel
theorem dX0_commonDivisor_21 : decode cX0_commonDivisor 21 = .ok (.istore 5, 2) := by decide +kernel
theorem dX0_commonDivisor_23 : decode cX0_commonDivisor 23 = .ok (.iload_n 3, 1) := by decide +kernel
theorem dX0_commonDivisor_24 : decode cX0_commonDivisor 24 = .ok (.istore_n 2, 1) := by decide +kernel
theorem dX0_commonDivisor_25 : decode cX0_commonDivisor 25 = .ok (.iload 5, 2) := by decide +kernel
theorem dX0_commonDivisor_27 : decode cX0_commonDivisor 27 = .ok (.istore_n 3, 1) := by decide +kernel
theorem dX0_commonDivisor_28 : decode cX0_commonDivisor 28 = .ok (.iinc 4 1, 3) := by decide +kernel
theorem dX0_commonDivisor_31 : decode cX0_commonDivisor 31 = .ok (.goto (-24), 3) := by decide +kernel
theorem dX0_commonDivisor_34 : decode cX0_commonDivisor 34 = .ok (.iload_n 2, 1) := by decide +kernel
theorem dX0_commonDivisor_35 : decode cX0_commonDivisor 35 = .ok (.ireturn, 1) := by decide +kernel
theorem dX1_init_0 : decode cX1_init 0 = .ok (.aload_n 0, 1) := by decide +kernel
theorem dX1_init_1 : decode cX1_init 1 = .ok (.invokespecial 3, 3) := by decide +kernel
theorem dX1_init_4 : decode cX1_init 4 = .ok (.aload_n 0, 1) := by decide +kernel
theorem dX1_init_5 : decode cX1_init 5 = .ok (.aload_n 1, 1) := by decide +kernel
theorem dX1_init_6 : decode cX1_init 6 = .ok (.putfield 9, 3) := by decide +kernel
theorem dX1_init_9 : decode cX1_init 9 = .ok (.aload_n 0, 1) := by decide +kernel
theorem dX1_init_10 : decode cX1_init 10 = .ok (.new 15, 3) := by decide +kernel
theorem dX1_init_13 : decode cX1_init 13 = .ok (.dup, 1) := by decide +kernel
theorem dX1_init_14 : decode cX1_init 14 = .ok (.aload_n 1, 1) := by decide +kernel
theorem dX1_init_15 : decode cX1_init 15 = .ok (.invokespecial 17, 3) := by decide +kernel
theorem dX1_init_18 : decode cX1_init 18 = .ok (.putfield 20, 3) := by decide +kernel
theorem dX1_init_21 : decode cX1_init 21 = .ok (.return_, 1) := by decide +kernel
theorem dX1_startFrom_0 : decode cX1_startFrom 0 = .ok (.aload_n 0, 1) := by decide +kernel
theorem dX1_startFrom_1 : decode cX1_startFrom 1 = .ok (.getfield 20, 3) := by decide +kernel
theorem dX1_startFrom_4 : decode cX1_startFrom 4 = .ok (.aload_n 1, 1) := by decide +kernel
theorem dX1_startFrom_5 : decode cX1_startFrom 5 = .ok (.invokevirtual 24, 3) := by decide +kernel
theorem dX1_startFrom_8 : decode cX1_startFrom 8 = .ok (.return_, 1) := by decide +kernel
theorem dX1_minutesTillLunch_0 : decode cX1_minutesTillLunch 0 = .ok (.aload_n 0, 1) := by decide +kernel
theorem dX1_minutesTillLunch_1 : decode cX1_minutesTillLunch 1 = .ok (.getfield 9, 3) := by decide +kernel
theorem dX1_minutesTillLunch_4 : decode cX1_minutesTillLunch 4 = .ok (.getfield 28, 3) := by decide +kernel
theorem dX1_minutesTillLunch_7 : decode cX1_minutesTillLunch 7 = .ok (.aload_n 0, 1) := by decide +kernel
theorem dX1_minutesTillLunch_8 : decode cX1_minutesTillLunch 8 = .ok (.getfield 20, 3) := by decide +kernel
theorem dX1_minutesTillLunch_11 : decode cX1_minutesTillLunch 11 = .ok (.getfield 34, 3) := by decide +kernel
theorem dX1_minutesTillLunch_14 : decode cX1_minutesTillLunch 14 = .ok (.isub, 1) := by decide +kernel
theorem dX1_minutesTillLunch_15 : decode cX1_minutesTillLunch 15 = .ok (.ireturn, 1) := by decide +kernel
theorem dX1_goOn_0 : decode cX1_goOn 0 = .ok (.aload_n 0, 1) := by decide +kernel
theorem dX1_goOn_1 : decode cX1_goOn 1 = .ok (.iconst 0, 1) := by decide +kernel
theorem dX1_goOn_2 : decode cX1_goOn 2 = .ok (.putfield 37, 3) := by decide +kernel
theorem dX1_goOn_5 : decode cX1_goOn 5 = .ok (.iconst 0, 1) := by decide +kernel
theorem dX1_goOn_6 : decode cX1_goOn 6 = .ok (.istore_n 3, 1) := by decide +kernel
theorem dX1_goOn_7 : decode cX1_goOn 7 = .ok (.iload_n 3, 1) := by decide +kernel
theorem dX1_goOn_8 : decode cX1_goOn 8 = .ok (.iload_n 2, 1) := by decide +kernel
theorem dX1_goOn_9 : decode cX1_goOn 9 = .ok (.if_icmp .gt 50, 3) := by decide +kernel
theorem dX1_goOn_12 : decode cX1_goOn 12 = .ok (.aload_n 0, 1) := by decide +kernel
theorem dX1_goOn_13 : decode cX1_goOn 13 = .ok (.invokevirtual 40, 3) := by decide +kernel
theorem dX1_goOn_16 : decode cX1_goOn 16 = .ok (.aload_n 0, 1) := by decide +kernel
theorem dX1_goOn_17 : decode cX1_goOn 17 = .ok (.getfield 20, 3) := by decide +kernel
theorem dX1_goOn_20 : decode cX1_goOn 20 = .ok (.invokevirtual 43, 3) := by decide +kernel
theorem dX1_goOn_23 : decode cX1_goOn 23 = .ok (.ifCond .eq 9, 3) := by decide +kernel
theorem dX1_goOn_26 : decode cX1_goOn 26 = .ok (.aload_n 0, 1) := by decide +kernel
theorem dX1_goOn_27 : decode cX1_goOn 27 = .ok (.iload_n 3, 1) := by decide +kernel
theorem dX1_goOn_28 : decode cX1_goOn 28 = .ok (.putfield 47, 3) := by decide +kernel
theorem dX1_goOn_31 : decode cX1_goOn 31 = .ok (.return_, 1) := by decide +kernel
theorem dX1_goOn_32 : decode cX1_goOn 32 = .ok (.aload_n 0, 1) := by decide +kernel
theorem dX1_goOn_33 : decode cX1_goOn 33 = .ok (.aload_n 1, 1) := by decide +kernel
theorem dX1_goOn_34 : decode cX1_goOn 34 = .ok (.invokevirtual 50, 3) := by decide +kernel
theorem dX1_goOn_37 : decode cX1_goOn 37 = .ok (.aload_n 0, 1) := by decide +kernel
theorem dX1_goOn_38 : decode cX1_goOn 38 = .ok (.dup, 1) := by decide +kernel
theorem dX1_goOn_39 : decode cX1_goOn 39 = .ok (.getfield 37, 3) := by decide +kernel
theorem dX1_goOn_42 : decode cX1_goOn 42 = .ok (.aload_n 0, 1) := by decide +kernel
theorem dX1_goOn_43 : decode cX1_goOn 43 = .ok (.getfield 20, 3) := by decide +kernel
theorem dX1_goOn_46 : decode cX1_goOn 46 = .ok (.invokevirtual 54, 3) := by decide +kernel
theorem dX1_goOn_49 : decode cX1_goOn 49 = .ok (.iadd, 1) := by decide +kernel
theorem dX1_goOn_50 : decode cX1_goOn 50 = .ok (.putfield 37, 3) := by decide +kernel
theorem dX1_goOn_53 : decode cX1_goOn 53 = .ok (.iinc 3 1, 3) := by decide +kernel
theorem dX1_goOn_56 : decode cX1_goOn 56 = .ok (.goto (-49), 3) := by decide +kernel
theorem dX1_goOn_59 : decode cX1_goOn 59 = .ok (.aload_n 0, 1) := by decide +kernel
theorem dX1_goOn_60 : decode cX1_goOn 60 = .ok (.bipush (-4), 2) := by decide +kernel
theorem dX1_goOn_62 : decode cX1_goOn 62 = .ok (.putfield 47, 3) := by decide +kernel
theorem dX1_goOn_65 : decode cX1_goOn 65 = .ok (.aload_n 0, 1) := by decide +kernel
theorem dX1_goOn_66 : decode cX1_goOn 66 = .ok (.bipush (-4), 2) := by decide +kernel
theorem dX1_goOn_68 : decode cX1_goOn 68 = .ok (.putfield 37, 3) := by decide +kernel
theorem dX1_goOn_71 : decode cX1_goOn 71 = .ok (.return_, 1) := by decide +kernel
theorem dX1_openDoors_0 : decode cX1_openDoors 0 = .ok (.iconst 0, 1) := by decide +kernel
theorem dX1_openDoors_1 : decode cX1_openDoors 1 = .ok (.istore_n 1, 1) := by decide +kernel
theorem dX1_openDoors_2 : decode cX1_openDoors 2 = .ok (.iload_n 1, 1) := by decide +kernel
theorem dX1_openDoors_3 : decode cX1_openDoors 3 = .ok (.iconst 3, 1) := by decide +kernel
theorem dX1_openDoors_4 : decode cX1_openDoors 4 = .ok (.if_icmp .ge 31, 3) := by decide +kernel
theorem dX1_openDoors_7 : decode cX1_openDoors 7 = .ok (.aload_n 0, 1) := by decide +kernel
theorem dX1_openDoors_8 : decode cX1_openDoors 8 = .ok (.invokevirtual 58, 3) := by decide +kernel
theorem dX1_openDoors_11 : decode cX1_openDoors 11 = .ok (.ifCond .eq 24, 3) := by decide +kernel
theorem dX1_openDoors_14 : decode cX1_openDoors 14 = .ok (.aload_n 0, 1) := by decide +kernel
theorem dX1_openDoors_15 : decode cX1_openDoors 15 = .ok (.getfield 20, 3) := by decide +kernel
theorem dX1_openDoors_18 : decode cX1_openDoors 18 = .ok (.aload_n 0, 1) := by decide +kernel
theorem dX1_openDoors_19 : decode cX1_openDoors 19 = .ok (.getfield 20, 3) := by decide +kernel
theorem dX1_openDoors_22 : decode cX1_openDoors 22 = .ok (.invokevirtual 61, 3) := by decide +kernel
theorem dX1_openDoors_25 : decode cX1_openDoors 25 = .ok (.invokevirtual 64, 3) := by decide +kernel
theorem dX1_openDoors_28 : decode cX1_openDoors 28 = .ok (.pop, 1) := by decide +kernel
theorem dX1_openDoors_29 : decode cX1_openDoors 29 = .ok (.iinc 1 1, 3) := by decide +kernel
theorem dX1_openDoors_32 : decode cX1_openDoors 32 = .ok (.goto (-30), 3) := by decide +kernel
theorem dX1_openDoors_35 : decode cX1_openDoors 35 = .ok (.return_, 1) := by decide +kernel
theorem dX1_doorIsDue_0 : decode cX1_doorIsDue 0 = .ok (.aload_n 0, 1) := by decide +kernel
theorem dX1_doorIsDue_1 : decode cX1_doorIsDue 1 = .ok (.getfield 20, 3) := by decide +kernel
theorem dX1_doorIsDue_4 : decode cX1_doorIsDue 4 = .ok (.iconst 2, 1) := by decide +kernel
theorem dX1_doorIsDue_5 : decode cX1_doorIsDue 5 = .ok (.invokevirtual 68, 3) := by decide +kernel
theorem dX1_doorIsDue_8 : decode cX1_doorIsDue 8 = .ok (.istore_n 1, 1) := by decide +kernel
theorem dX1_doorIsDue_9 : decode cX1_doorIsDue 9 = .ok (.iload_n 1, 1) := by decide +kernel
theorem dX1_doorIsDue_10 : decode cX1_doorIsDue 10 = .ok (.ifCond .eq 14, 3) := by decide +kernel
theorem dX1_doorIsDue_13 : decode cX1_doorIsDue 13 = .ok (.aload_n 0, 1) := by decide +kernel
theorem dX1_doorIsDue_14 : decode cX1_doorIsDue 14 = .ok (.getfield 20, 3) := by decide +kernel
theorem dX1_doorIsDue_17 : decode cX1_doorIsDue 17 = .ok (.iconst 0, 1) := by decide +kernel
theorem dX1_doorIsDue_18 : decode cX1_doorIsDue 18 = .ok (.invokevirtual 71, 3) := by decide +kernel
theorem dX1_doorIsDue_21 : decode cX1_doorIsDue 21 = .ok (.ifCond .ne 5, 3) := by decide +kernel
theorem dX1_doorIsDue_24 : decode cX1_doorIsDue 24 = .ok (.iconst 0, 1) := by decide +kernel
theorem dX1_doorIsDue_25 : decode cX1_doorIsDue 25 = .ok (.ireturn, 1) := by decide +kernel
theorem dX1_doorIsDue_26 : decode cX1_doorIsDue 26 = .ok (.iload_n 1, 1) := by decide +kernel
theorem dX1_doorIsDue_27 : decode cX1_doorIsDue 27 = .ok (.aload_n 0, 1) := by decide +kernel
theorem dX1_doorIsDue_28 : decode cX1_doorIsDue 28 = .ok (.getfield 9, 3) := by decide +kernel
theorem dX1_doorIsDue_31 : decode cX1_doorIsDue 31 = .ok (.getfield 74, 3) := by decide +kernel
theorem dX1_doorIsDue_34 : decode cX1_doorIsDue 34 = .ok (.if_icmp .lt 17, 3) := by decide +kernel
theorem dX1_doorIsDue_37 : decode cX1_doorIsDue 37 = .ok (.aload_n 0, 1) := by decide +kernel
theorem dX1_doorIsDue_38 : decode cX1_doorIsDue 38 = .ok (.getfield 20, 3) := by decide +kernel
theorem dX1_doorIsDue_41 : decode cX1_doorIsDue 41 = .ok (.invokevirtual 77, 3) := by decide +kernel
theorem dX1_doorIsDue_44 : decode cX1_doorIsDue 44 = .ok (.ifCond .ne 7, 3) := by decide +kernel
theorem dX1_doorIsDue_47 : decode cX1_doorIsDue 47 = .ok (.iconst 1, 1) := by decide +kernel
theorem dX1_doorIsDue_48 : decode cX1_doorIsDue 48 = .ok (.goto 4, 3) := by decide +kernel
theorem dX1_doorIsDue_51 : decode cX1_doorIsDue 51 = .ok (.iconst 0, 1) := by decide +kernel
theorem dX1_doorIsDue_52 : decode cX1_doorIsDue 52 = .ok (.istore_n 2, 1) := by decide +kernel
theorem dX1_doorIsDue_53 : decode cX1_doorIsDue 53 = .ok (.iload_n 2, 1) := by decide +kernel
theorem dX1_doorIsDue_54 : decode cX1_doorIsDue 54 = .ok (.ifCond .ne 23, 3) := by decide +kernel
theorem dX1_doorIsDue_57 : decode cX1_doorIsDue 57 = .ok (.iload_n 1, 1) := by decide +kernel
theorem dX1_doorIsDue_58 : decode cX1_doorIsDue 58 = .ok (.aload_n 0, 1) := by decide +kernel
theorem dX1_doorIsDue_59 : decode cX1_doorIsDue 59 = .ok (.getfield 20, 3) := by decide +kernel
theorem dX1_doorIsDue_62 : decode cX1_doorIsDue 62 = .ok (.iconst 3, 1) := by decide +kernel
theorem dX1_doorIsDue_63 : decode cX1_doorIsDue 63 = .ok (.invokevirtual 68, 3) := by decide +kernel
theorem dX1_doorIsDue_66 : decode cX1_doorIsDue 66 = .ok (.iadd, 1) := by decide +kernel
theorem dX1_doorIsDue_67 : decode cX1_doorIsDue 67 = .ok (.aload_n 0, 1) := by decide +kernel
theorem dX1_doorIsDue_68 : decode cX1_doorIsDue 68 = .ok (.getfield 9, 3) := by decide +kernel
theorem dX1_doorIsDue_71 : decode cX1_doorIsDue 71 = .ok (.getfield 80, 3) := by decide +kernel
theorem dX1_doorIsDue_74 : decode cX1_doorIsDue 74 = .ok (.if_icmp .ne 7, 3) := by decide +kernel
theorem dX1_doorIsDue_77 : decode cX1_doorIsDue 77 = .ok (.iconst 1, 1) := by decide +kernel
theorem dX1_doorIsDue_78 : decode cX1_doorIsDue 78 = .ok (.goto 4, 3) := by decide +kernel
theorem dX1_doorIsDue_81 : decode cX1_doorIsDue 81 = .ok (.iconst 0, 1) := by decide +kernel
theorem dX1_doorIsDue_82 : decode cX1_doorIsDue 82 = .ok (.ireturn, 1) := by decide +kernel
theorem dX1_dressByRow_0 : decode cX1_dressByRow 0 = .ok (.iconst 0, 1) := by decide +kernel
theorem dX1_dressByRow_1 : decode cX1_dressByRow 1 = .ok (.istore_n 2, 1) := by decide +kernel
theorem dX1_dressByRow_2 : decode cX1_dressByRow 2 = .ok (.iload_n 2, 1) := by decide +kernel
theorem dX1_dressByRow_3 : decode cX1_dressByRow 3 = .ok (.aload_n 0, 1) := by decide +kernel
theorem dX1_dressByRow_4 : decode cX1_dressByRow 4 = .ok (.getfield 20, 3) := by decide +kernel
theorem dX1_dressByRow_7 : decode cX1_dressByRow 7 = .ok (.getfield 83, 3) := by decide +kernel
theorem dX1_dressByRow_10 : decode cX1_dressByRow 10 = .ok (.if_icmp .ge 34, 3) := by decide +kernel
theorem dX1_dressByRow_13 : decode cX1_dressByRow 13 = .ok (.aload_n 0, 1) := by decide +kernel
theorem dX1_dressByRow_14 : decode cX1_dressByRow 14 = .ok (.getfield 20, 3) := by decide +kernel
theorem dX1_dressByRow_17 : decode cX1_dressByRow 17 = .ok (.iload_n 2, 1) := by decide +kernel
theorem dX1_dressByRow_18 : decode cX1_dressByRow 18 = .ok (.invokevirtual 86, 3) := by decide +kernel
theorem dX1_dressByRow_21 : decode cX1_dressByRow 21 = .ok (.ifCond .eq 17, 3) := by decide +kernel
theorem dX1_dressByRow_24 : decode cX1_dressByRow 24 = .ok (.aload_n 0, 1) := by decide +kernel
theorem dX1_dressByRow_25 : decode cX1_dressByRow 25 = .ok (.getfield 20, 3) := by decide +kernel
theorem dX1_dressByRow_28 : decode cX1_dressByRow 28 = .ok (.iload_n 2, 1) := by decide +kernel
theorem dX1_dressByRow_29 : decode cX1_dressByRow 29 = .ok (.aload_n 0, 1) := by decide +kernel
theorem dX1_dressByRow_30 : decode cX1_dressByRow 30 = .ok (.aload_n 1, 1) := by decide +kernel
theorem dX1_dressByRow_31 : decode cX1_dressByRow 31 = .ok (.invokevirtual 90, 3) := by decide +kernel
theorem dX1_dressByRow_34 : decode cX1_dressByRow 34 = .ok (.invokevirtual 94, 3) := by decide +kernel
theorem dX1_dressByRow_37 : decode cX1_dressByRow 37 = .ok (.pop, 1) := by decide +kernel
theorem dX1_dressByRow_38 : decode cX1_dressByRow 38 = .ok (.iinc 2 1, 3) := by decide +kernel
theorem dX1_dressByRow_41 : decode cX1_dressByRow 41 = .ok (.goto (-39), 3) := by decide +kernel
theorem dX1_dressByRow_44 : decode cX1_dressByRow 44 = .ok (.return_, 1) := by decide +kernel
theorem dX1_firstBare_0 : decode cX1_firstBare 0 = .ok (.iconst 0, 1) := by decide +kernel
theorem dX1_firstBare_1 : decode cX1_firstBare 1 = .ok (.istore_n 2, 1) := by decide +kernel
theorem dX1_firstBare_2 : decode cX1_firstBare 2 = .ok (.iload_n 2, 1) := by decide +kernel
theorem dX1_firstBare_3 : decode cX1_firstBare 3 = .ok (.aload_n 1, 1) := by decide +kernel
theorem dX1_firstBare_4 : decode cX1_firstBare 4 = .ok (.arraylength, 1) := by decide +kernel
theorem dX1_firstBare_5 : decode cX1_firstBare 5 = .ok (.if_icmp .ge 26, 3) := by decide +kernel
theorem dX1_firstBare_8 : decode cX1_firstBare 8 = .ok (.aload_n 0, 1) := by decide +kernel
theorem dX1_firstBare_9 : decode cX1_firstBare 9 = .ok (.getfield 20, 3) := by decide +kernel
theorem dX1_firstBare_12 : decode cX1_firstBare 12 = .ok (.aload_n 1, 1) := by decide +kernel
theorem dX1_firstBare_13 : decode cX1_firstBare 13 = .ok (.iload_n 2, 1) := by decide +kernel
theorem dX1_firstBare_14 : decode cX1_firstBare 14 = .ok (.iaload, 1) := by decide +kernel
theorem dX1_firstBare_15 : decode cX1_firstBare 15 = .ok (.invokevirtual 98, 3) := by decide +kernel
theorem dX1_firstBare_18 : decode cX1_firstBare 18 = .ok (.ifCond .eq 7, 3) := by decide +kernel
theorem dX1_firstBare_21 : decode cX1_firstBare 21 = .ok (.aload_n 1, 1) := by decide +kernel
theorem dX1_firstBare_22 : decode cX1_firstBare 22 = .ok (.iload_n 2, 1) := by decide +kernel
theorem dX1_firstBare_23 : decode cX1_firstBare 23 = .ok (.iaload, 1) := by decide +kernel
theorem dX1_firstBare_24 : decode cX1_firstBare 24 = .ok (.ireturn, 1) := by decide +kernel
theorem dX1_firstBare_25 : decode cX1_firstBare 25 = .ok (.iinc 2 1, 3) := by decide +kernel
theorem dX1_firstBare_28 : decode cX1_firstBare 28 = .ok (.goto (-26), 3) := by decide +kernel
theorem dX1_firstBare_31 : decode cX1_firstBare 31 = .ok (.bipush (-4), 2) := by decide +kernel
theorem dX1_firstBare_33 : decode cX1_firstBare 33 = .ok (.ireturn, 1) := by decide +kernel
theorem dX1_goByDraws_0 : decode cX1_goByDraws 0 = .ok (.aload_n 0, 1) := by decide +kernel
theorem dX1_goByDraws_1 : decode cX1_goByDraws 1 = .ok (.iconst 0, 1) := by decide +kernel
theorem dX1_goByDraws_2 : decode cX1_goByDraws 2 = .ok (.putfield 37, 3) := by decide +kernel
theorem dX1_goByDraws_5 : decode cX1_goByDraws 5 = .ok (.iconst 0, 1) := by decide +kernel
theorem dX1_goByDraws_6 : decode cX1_goByDraws 6 = .ok (.istore_n 3, 1) := by decide +kernel
theorem dX1_goByDraws_7 : decode cX1_goByDraws 7 = .ok (.iload_n 3, 1) := by decide +kernel
theorem dX1_goByDraws_8 : decode cX1_goByDraws 8 = .ok (.iload_n 2, 1) := by decide +kernel
theorem dX1_goByDraws_9 : decode cX1_goByDraws 9 = .ok (.if_icmp .ge 102, 3) := by decide +kernel
theorem dX1_goByDraws_12 : decode cX1_goByDraws 12 = .ok (.iload_n 1, 1) := by decide +kernel
theorem dX1_goByDraws_13 : decode cX1_goByDraws 13 = .ok (.iload_n 3, 1) := by decide +kernel
theorem dX1_goByDraws_14 : decode cX1_goByDraws 14 = .ok (.invokestatic 101, 3) := by decide +kernel
theorem dX1_goByDraws_17 : decode cX1_goByDraws 17 = .ok (.istore 4, 2) := by decide +kernel
theorem dX1_goByDraws_19 : decode cX1_goByDraws 19 = .ok (.aload_n 0, 1) := by decide +kernel
theorem dX1_goByDraws_20 : decode cX1_goByDraws 20 = .ok (.getfield 9, 3) := by decide +kernel
theorem dX1_goByDraws_23 : decode cX1_goByDraws 23 = .ok (.getfield 80, 3) := by decide +kernel
theorem dX1_goByDraws_26 : decode cX1_goByDraws 26 = .ok (.ifCond .le 28, 3) := by decide +kernel
theorem dX1_goByDraws_29 : decode cX1_goByDraws 29 = .ok (.aload_n 0, 1) := by decide +kernel
theorem dX1_goByDraws_30 : decode cX1_goByDraws 30 = .ok (.getfield 20, 3) := by decide +kernel
theorem dX1_goByDraws_33 : decode cX1_goByDraws 33 = .ok (.aload_n 0, 1) := by decide +kernel
theorem dX1_goByDraws_34 : decode cX1_goByDraws 34 = .ok (.getfield 20, 3) := by decide +kernel
theorem dX1_goByDraws_37 : decode cX1_goByDraws 37 = .ok (.invokevirtual 104, 3) := by decide +kernel
theorem dX1_goByDraws_40 : decode cX1_goByDraws 40 = .ok (.iload 4, 2) := by decide +kernel
theorem dX1_goByDraws_42 : decode cX1_goByDraws 42 = .ok (.aload_n 0, 1) := by decide +kernel
theorem dX1_goByDraws_43 : decode cX1_goByDraws 43 = .ok (.getfield 9, 3) := by decide +kernel
theorem dX1_goByDraws_46 : decode cX1_goByDraws 46 = .ok (.getfield 80, 3) := by decide +kernel
theorem dX1_goByDraws_49 : decode cX1_goByDraws 49 = .ok (.irem, 1) := by decide +kernel
theorem dX1_goByDraws_50 : decode cX1_goByDraws 50 = .ok (.invokevirtual 94, 3) := by decide +kernel
theorem dX1_goByDraws_53 : decode cX1_goByDraws 53 = .ok (.pop, 1) := by decide +kernel
theorem dX1_goByDraws_54 : decode cX1_goByDraws 54 = .ok (.iload 4, 2) := by decide +kernel
theorem dX1_goByDraws_56 : decode cX1_goByDraws 56 = .ok (.bipush 8, 2) := by decide +kernel
theorem dX1_goByDraws_58 : decode cX1_goByDraws 58 = .ok (.idiv, 1) := by decide +kernel
theorem dX1_goByDraws_59 : decode cX1_goByDraws 59 = .ok (.iconst 3, 1) := by decide +kernel
theorem dX1_goByDraws_60 : decode cX1_goByDraws 60 = .ok (.irem, 1) := by decide +kernel
theorem dX1_goByDraws_61 : decode cX1_goByDraws 61 = .ok (.ifCond .ne 28, 3) := by decide +kernel
theorem dX1_goByDraws_64 : decode cX1_goByDraws 64 = .ok (.aload_n 0, 1) := by decide +kernel
theorem dX1_goByDraws_65 : decode cX1_goByDraws 65 = .ok (.getfield 20, 3) := by decide +kernel
theorem dX1_goByDraws_68 : decode cX1_goByDraws 68 = .ok (.invokevirtual 77, 3) := by decide +kernel
theorem dX1_goByDraws_71 : decode cX1_goByDraws 71 = .ok (.ifCond .ne 18, 3) := by decide +kernel
theorem dX1_goByDraws_74 : decode cX1_goByDraws 74 = .ok (.aload_n 0, 1) := by decide +kernel
theorem dX1_goByDraws_75 : decode cX1_goByDraws 75 = .ok (.getfield 20, 3) := by decide +kernel
theorem dX1_goByDraws_78 : decode cX1_goByDraws 78 = .ok (.aload_n 0, 1) := by decide +kernel
theorem dX1_goByDraws_79 : decode cX1_goByDraws 79 = .ok (.getfield 20, 3) := by decide +kernel
theorem dX1_goByDraws_82 : decode cX1_goByDraws 82 = .ok (.invokevirtual 61, 3) := by decide +kernel
theorem dX1_goByDraws_85 : decode cX1_goByDraws 85 = .ok (.invokevirtual 64, 3) := by decide +kernel
theorem dX1_goByDraws_88 : decode cX1_goByDraws 88 = .ok (.pop, 1) := by decide +kernel
theorem dX1_goByDraws_89 : decode cX1_goByDraws 89 = .ok (.aload_n 0, 1) := by decide +kernel
theorem dX1_goByDraws_90 : decode cX1_goByDraws 90 = .ok (.dup, 1) := by decide +kernel
theorem dX1_goByDraws_91 : decode cX1_goByDraws 91 = .ok (.getfield 37, 3) := by decide +kernel
theorem dX1_goByDraws_94 : decode cX1_goByDraws 94 = .ok (.aload_n 0, 1) := by decide +kernel
theorem dX1_goByDraws_95 : decode cX1_goByDraws 95 = .ok (.getfield 20, 3) := by decide +kernel
theorem dX1_goByDraws_98 : decode cX1_goByDraws 98 = .ok (.invokevirtual 54, 3) := by decide +kernel
theorem dX1_goByDraws_101 : decode cX1_goByDraws 101 = .ok (.iadd, 1) := by decide +kernel
theorem dX1_goByDraws_102 : decode cX1_goByDraws 102 = .ok (.putfield 37, 3) := by decide +kernel
theorem dX1_goByDraws_105 : decode cX1_goByDraws 105 = .ok (.iinc 3 1, 3) := by decide +kernel
theorem dX1_goByDraws_108 : decode cX1_goByDraws 108 = .ok (.goto (-101), 3) := by decide +kernel
theorem dX1_goByDraws_111 : decode cX1_goByDraws 111 = .ok (.return_, 1) := by decide +kernel
theorem dX1_draw_0 : decode cX1_draw 0 = .ok (.ldc2_w 107, 3) := by decide +kernel
theorem dX1_draw_3 : decode cX1_draw 3 = .ok (.iload_n 0, 1) := by decide +kernel
theorem dX1_draw_4 : decode cX1_draw 4 = .ok (.i2l, 1) := by decide +kernel
theorem dX1_draw_5 : decode cX1_draw 5 = .ok (.lmul, 1) := by decide +kernel
theorem dX1_draw_6 : decode cX1_draw 6 = .ok (.ldc2_w 109, 3) := by decide +kernel
theorem dX1_draw_9 : decode cX1_draw 9 = .ok (.iload_n 1, 1) := by decide +kernel
theorem dX1_draw_10 : decode cX1_draw 10 = .ok (.i2l, 1) := by decide +kernel
theorem dX1_draw_11 : decode cX1_draw 11 = .ok (.lmul, 1) := by decide +kernel
theorem dX1_draw_12 : decode cX1_draw 12 = .ok (.ladd, 1) := by decide +kernel
theorem dX1_draw_13 : decode cX1_draw 13 = .ok (.lconst 1, 1) := by decide +kernel
theorem dX1_draw_14 : decode cX1_draw 14 = .ok (.ladd, 1) := by decide +kernel
theorem dX1_draw_15 : decode cX1_draw 15 = .ok (.lstore_n 2, 1) := by decide +kernel
theorem dX1_draw_16 : decode cX1_draw 16 = .ok (.lload_n 2, 1) := by decide +kernel
theorem dX1_draw_17 : decode cX1_draw 17 = .ok (.lload_n 2, 1) := by decide +kernel
theorem dX1_draw_18 : decode cX1_draw 18 = .ok (.lmul, 1) := by decide +kernel
theorem dX1_draw_19 : decode cX1_draw 19 = .ok (.ldc2_w 111, 3) := by decide +kernel
theorem dX1_draw_22 : decode cX1_draw 22 = .ok (.lrem, 1) := by decide +kernel
theorem dX1_draw_23 : decode cX1_draw 23 = .ok (.ldc2_w 113, 3) := by decide +kernel
theorem dX1_draw_26 : decode cX1_draw 26 = .ok (.ldiv, 1) := by decide +kernel
theorem dX1_draw_27 : decode cX1_draw 27 = .ok (.l2i, 1) := by decide +kernel
theorem dX1_draw_28 : decode cX1_draw 28 = .ok (.ireturn, 1) := by decide +kernel
theorem dX2_init_0 : decode cX2_init 0 = .ok (.aload_n 0, 1) := by decide +kernel
theorem dX2_init_1 : decode cX2_init 1 = .ok (.invokespecial 3, 3) := by decide +kernel
theorem dX2_init_4 : decode cX2_init 4 = .ok (.aload_n 0, 1) := by decide +kernel
theorem dX2_init_5 : decode cX2_init 5 = .ok (.bipush 6, 2) := by decide +kernel
theorem dX2_init_7 : decode cX2_init 7 = .ok (.newarray .int, 2) := by decide +kernel
theorem dX2_init_9 : decode cX2_init 9 = .ok (.putfield 9, 3) := by decide +kernel
theorem dX2_init_12 : decode cX2_init 12 = .ok (.aload_n 0, 1) := by decide +kernel
theorem dX2_init_13 : decode cX2_init 13 = .ok (.bipush 6, 2) := by decide +kernel
theorem dX2_init_15 : decode cX2_init 15 = .ok (.newarray .int, 2) := by decide +kernel
theorem dX2_init_17 : decode cX2_init 17 = .ok (.putfield 15, 3) := by decide +kernel
theorem dX2_init_20 : decode cX2_init 20 = .ok (.aload_n 0, 1) := by decide +kernel
theorem dX2_init_21 : decode cX2_init 21 = .ok (.bipush 6, 2) := by decide +kernel
theorem dX2_init_23 : decode cX2_init 23 = .ok (.newarray .int, 2) := by decide +kernel
theorem dX2_init_25 : decode cX2_init 25 = .ok (.putfield 18, 3) := by decide +kernel
theorem dX2_init_28 : decode cX2_init 28 = .ok (.aload_n 0, 1) := by decide +kernel
theorem dX2_init_29 : decode cX2_init 29 = .ok (.iconst 3, 1) := by decide +kernel
theorem dX2_init_30 : decode cX2_init 30 = .ok (.newarray .int, 2) := by decide +kernel
theorem dX2_init_32 : decode cX2_init 32 = .ok (.putfield 21, 3) := by decide +kernel
theorem dX2_init_35 : decode cX2_init 35 = .ok (.aload_n 0, 1) := by decide +kernel
theorem dX2_init_36 : decode cX2_init 36 = .ok (.iconst 3, 1) := by decide +kernel
theorem dX2_init_37 : decode cX2_init 37 = .ok (.newarray .int, 2) := by decide +kernel
theorem dX2_init_39 : decode cX2_init 39 = .ok (.putfield 24, 3) := by decide +kernel
theorem dX2_init_42 : decode cX2_init 42 = .ok (.aload_n 0, 1) := by decide +kernel
theorem dX2_init_43 : decode cX2_init 43 = .ok (.iconst 3, 1) := by decide +kernel
theorem dX2_init_44 : decode cX2_init 44 = .ok (.newarray .int, 2) := by decide +kernel
theorem dX2_init_46 : decode cX2_init 46 = .ok (.putfield 27, 3) := by decide +kernel
theorem dX2_init_49 : decode cX2_init 49 = .ok (.aload_n 0, 1) := by decide +kernel
theorem dX2_init_50 : decode cX2_init 50 = .ok (.aload_n 1, 1) := by decide +kernel
theorem dX2_init_51 : decode cX2_init 51 = .ok (.putfield 30, 3) := by decide +kernel
theorem dX2_init_54 : decode cX2_init 54 = .ok (.return_, 1) := by decide +kernel
theorem dX2_startAgain_0 : decode cX2_startAgain 0 = .ok (.iconst 0, 1) := by decide +kernel
theorem dX2_startAgain_1 : decode cX2_startAgain 1 = .ok (.istore_n 2, 1) := by decide +kernel
theorem dX2_startAgain_2 : decode cX2_startAgain 2 = .ok (.iload_n 2, 1) := by decide +kernel
theorem dX2_startAgain_3 : decode cX2_startAgain 3 = .ok (.bipush 6, 2) := by decide +kernel
theorem dX2_startAgain_5 : decode cX2_startAgain 5 = .ok (.if_icmp .ge 30, 3) := by decide +kernel
theorem dX2_startAgain_8 : decode cX2_startAgain 8 = .ok (.aload_n 0, 1) := by decide +kernel
theorem dX2_startAgain_9 : decode cX2_startAgain 9 = .ok (.getfield 9, 3) := by decide +kernel
theorem dX2_startAgain_12 : decode cX2_startAgain 12 = .ok (.iload_n 2, 1) := by decide +kernel
theorem dX2_startAgain_13 : decode cX2_startAgain 13 = .ok (.iconst 0, 1) := by decide +kernel
theorem dX2_startAgain_14 : decode cX2_startAgain 14 = .ok (.iastore, 1) := by decide +kernel
theorem dX2_startAgain_15 : decode cX2_startAgain 15 = .ok (.aload_n 0, 1) := by decide +kernel
theorem dX2_startAgain_16 : decode cX2_startAgain 16 = .ok (.getfield 15, 3) := by decide +kernel
theorem dX2_startAgain_19 : decode cX2_startAgain 19 = .ok (.iload_n 2, 1) := by decide +kernel
theorem dX2_startAgain_20 : decode cX2_startAgain 20 = .ok (.iconst 0, 1) := by decide +kernel
theorem dX2_startAgain_21 : decode cX2_startAgain 21 = .ok (.iastore, 1) := by decide +kernel
theorem dX2_startAgain_22 : decode cX2_startAgain 22 = .ok (.aload_n 0, 1) := by decide +kernel
theorem dX2_startAgain_23 : decode cX2_startAgain 23 = .ok (.getfield 18, 3) := by decide +kernel
theorem dX2_startAgain_26 : decode cX2_startAgain 26 = .ok (.iload_n 2, 1) := by decide +kernel
theorem dX2_startAgain_27 : decode cX2_startAgain 27 = .ok (.iconst 0, 1) := by decide +kernel
theorem dX2_startAgain_28 : decode cX2_startAgain 28 = .ok (.iastore, 1) := by decide +kernel
theorem dX2_startAgain_29 : decode cX2_startAgain 29 = .ok (.iinc 2 1, 3) := by decide +kernel
theorem dX2_startAgain_32 : decode cX2_startAgain 32 = .ok (.goto (-30), 3) := by decide +kernel
theorem dX2_startAgain_35 : decode cX2_startAgain 35 = .ok (.iconst 0, 1) := by decide +kernel
theorem dX2_startAgain_36 : decode cX2_startAgain 36 = .ok (.istore_n 2, 1) := by decide +kernel
theorem dX2_startAgain_37 : decode cX2_startAgain 37 = .ok (.iload_n 2, 1) := by decide +kernel
theorem dX2_startAgain_38 : decode cX2_startAgain 38 = .ok (.iconst 3, 1) := by decide +kernel
theorem dX2_startAgain_39 : decode cX2_startAgain 39 = .ok (.if_icmp .ge 31, 3) := by decide +kernel
theorem dX2_startAgain_42 : decode cX2_startAgain 42 = .ok (.aload_n 0, 1) := by decide +kernel
theorem dX2_startAgain_43 : decode cX2_startAgain 43 = .ok (.getfield 21, 3) := by decide +kernel
theorem dX2_startAgain_46 : decode cX2_startAgain 46 = .ok (.iload_n 2, 1) := by decide +kernel
theorem dX2_startAgain_47 : decode cX2_startAgain 47 = .ok (.iconst 0, 1) := by decide +kernel
theorem dX2_startAgain_48 : decode cX2_startAgain 48 = .ok (.iastore, 1) := by decide +kernel
theorem dX2_startAgain_49 : decode cX2_startAgain 49 = .ok (.aload_n 0, 1) := by decide +kernel
theorem dX2_startAgain_50 : decode cX2_startAgain 50 = .ok (.getfield 24, 3) := by decide +kernel
theorem dX2_startAgain_53 : decode cX2_startAgain 53 = .ok (.iload_n 2, 1) := by decide +kernel
theorem dX2_startAgain_54 : decode cX2_startAgain 54 = .ok (.iconst 0, 1) := by decide +kernel
theorem dX2_startAgain_55 : decode cX2_startAgain 55 = .ok (.iastore, 1) := by decide +kernel
theorem dX2_startAgain_56 : decode cX2_startAgain 56 = .ok (.aload_n 0, 1) := by decide +kernel
theorem dX2_startAgain_57 : decode cX2_startAgain 57 = .ok (.getfield 27, 3) := by decide +kernel
theorem dX2_startAgain_60 : decode cX2_startAgain 60 = .ok (.iload_n 2, 1) := by decide +kernel
theorem dX2_startAgain_61 : decode cX2_startAgain 61 = .ok (.bipush (-4), 2) := by decide +kernel
theorem dX2_startAgain_63 : decode cX2_startAgain 63 = .ok (.iastore, 1) := by decide +kernel
theorem dX2_startAgain_64 : decode cX2_startAgain 64 = .ok (.iinc 2 1, 3) := by decide +kernel
theorem dX2_startAgain_67 : decode cX2_startAgain 67 = .ok (.goto (-30), 3) := by decide +kernel
theorem dX2_startAgain_70 : decode cX2_startAgain 70 = .ok (.aload_n 0, 1) := by decide +kernel
theorem dX2_startAgain_71 : decode cX2_startAgain 71 = .ok (.iload_n 1, 1) := by decide +kernel
theorem dX2_startAgain_72 : decode cX2_startAgain 72 = .ok (.putfield 34, 3) := by decide +kernel
theorem dX2_startAgain_75 : decode cX2_startAgain 75 = .ok (.aload_n 0, 1) := by decide +kernel
theorem dX2_startAgain_76 : decode cX2_startAgain 76 = .ok (.iconst 0, 1) := by decide +kernel
theorem dX2_startAgain_77 : decode cX2_startAgain 77 = .ok (.putfield 38, 3) := by decide +kernel
theorem dX2_startAgain_80 : decode cX2_startAgain 80 = .ok (.aload_n 0, 1) := by decide +kernel
theorem dX2_startAgain_81 : decode cX2_startAgain 81 = .ok (.iconst 0, 1) := by decide +kernel
theorem dX2_startAgain_82 : decode cX2_startAgain 82 = .ok (.putfield 41, 3) := by decide +kernel
theorem dX2_startAgain_85 : decode cX2_startAgain 85 = .ok (.aload_n 0, 1) := by decide +kernel
theorem dX2_startAgain_86 : decode cX2_startAgain 86 = .ok (.dup, 1) := by decide +kernel
theorem dX2_startAgain_87 : decode cX2_startAgain 87 = .ok (.getfield 45, 3) := by decide +kernel
theorem dX2_startAgain_90 : decode cX2_startAgain 90 = .ok (.iconst 1, 1) := by decide +kernel
theorem dX2_startAgain_91 : decode cX2_startAgain 91 = .ok (.iadd, 1) := by decide +kernel
theorem dX2_startAgain_92 : decode cX2_startAgain 92 = .ok (.putfield 45, 3) := by decide +kernel
theorem dX2_startAgain_95 : decode cX2_startAgain 95 = .ok (.return_, 1) := by decide +kernel
theorem dX2_copyFrom_0 : decode cX2_copyFrom 0 = .ok (.aload_n 1, 1) := by decide +kernel
theorem dX2_copyFrom_1 : decode cX2_copyFrom 1 = .ok (.getfield 9, 3) := by decide +kernel
theorem dX2_copyFrom_4 : decode cX2_copyFrom 4 = .ok (.iconst 0, 1) := by decide +kernel
theorem dX2_copyFrom_5 : decode cX2_copyFrom 5 = .ok (.aload_n 0, 1) := by decide +kernel
theorem dX2_copyFrom_6 : decode cX2_copyFrom 6 = .ok (.getfield 9, 3) := by decide +kernel
theorem dX2_copyFrom_9 : decode cX2_copyFrom 9 = .ok (.iconst 0, 1) := by decide +kernel
theorem dX2_copyFrom_10 : decode cX2_copyFrom 10 = .ok (.bipush 6, 2) := by decide +kernel
theorem dX2_copyFrom_12 : decode cX2_copyFrom 12 = .ok (.invokestatic 48, 3) := by decide +kernel
theorem dX2_copyFrom_15 : decode cX2_copyFrom 15 = .ok (.aload_n 1, 1) := by decide +kernel
theorem dX2_copyFrom_16 : decode cX2_copyFrom 16 = .ok (.getfield 15, 3) := by decide +kernel
theorem dX2_copyFrom_19 : decode cX2_copyFrom 19 = .ok (.iconst 0, 1) := by decide +kernel
theorem dX2_copyFrom_20 : decode cX2_copyFrom 20 = .ok (.aload_n 0, 1) := by decide +kernel
theorem dX2_copyFrom_21 : decode cX2_copyFrom 21 = .ok (.getfield 15, 3) := by decide +kernel
theorem dX2_copyFrom_24 : decode cX2_copyFrom 24 = .ok (.iconst 0, 1) := by decide +kernel
theorem dX2_copyFrom_25 : decode cX2_copyFrom 25 = .ok (.bipush 6, 2) := by decide +kernel
theorem dX2_copyFrom_27 : decode cX2_copyFrom 27 = .ok (.invokestatic 48, 3) := by decide +kernel
theorem dX2_copyFrom_30 : decode cX2_copyFrom 30 = .ok (.aload_n 1, 1) := by decide +kernel
theorem dX2_copyFrom_31 : decode cX2_copyFrom 31 = .ok (.getfield 18, 3) := by decide +kernel
theorem dX2_copyFrom_34 : decode cX2_copyFrom 34 = .ok (.iconst 0, 1) := by decide +kernel
theorem dX2_copyFrom_35 : decode cX2_copyFrom 35 = .ok (.aload_n 0, 1) := by decide +kernel
theorem dX2_copyFrom_36 : decode cX2_copyFrom 36 = .ok (.getfield 18, 3) := by decide +kernel
theorem dX2_copyFrom_39 : decode cX2_copyFrom 39 = .ok (.iconst 0, 1) := by decide +kernel
theorem dX2_copyFrom_40 : decode cX2_copyFrom 40 = .ok (.bipush 6, 2) := by decide +kernel
theorem dX2_copyFrom_42 : decode cX2_copyFrom 42 = .ok (.invokestatic 48, 3) := by decide +kernel
theorem dX2_copyFrom_45 : decode cX2_copyFrom 45 = .ok (.aload_n 1, 1) := by decide +kernel
theorem dX2_copyFrom_46 : decode cX2_copyFrom 46 = .ok (.getfield 21, 3) := by decide +kernel
theorem dX2_copyFrom_49 : decode cX2_copyFrom 49 = .ok (.iconst 0, 1) := by decide +kernel
theorem dX2_copyFrom_50 : decode cX2_copyFrom 50 = .ok (.aload_n 0, 1) := by decide +kernel
theorem dX2_copyFrom_51 : decode cX2_copyFrom 51 = .ok (.getfield 21, 3) := by decide +kernel
theorem dX2_copyFrom_54 : decode cX2_copyFrom 54 = .ok (.iconst 0, 1) := by decide +kernel
theorem dX2_copyFrom_55 : decode cX2_copyFrom 55 = .ok (.iconst 3, 1) := by decide +kernel
theorem dX2_copyFrom_56 : decode cX2_copyFrom 56 = .ok (.invokestatic 48, 3) := by decide +kernel
theorem dX2_copyFrom_59 : decode cX2_copyFrom 59 = .ok (.aload_n 1, 1) := by decide +kernel
theorem dX2_copyFrom_60 : decode cX2_copyFrom 60 = .ok (.getfield 24, 3) := by decide +kernel
theorem dX2_copyFrom_63 : decode cX2_copyFrom 63 = .ok (.iconst 0, 1) := by decide +kernel
theorem dX2_copyFrom_64 : decode cX2_copyFrom 64 = .ok (.aload_n 0, 1) := by decide +kernel
theorem dX2_copyFrom_65 : decode cX2_copyFrom 65 = .ok (.getfield 24, 3) := by decide +kernel
theorem dX2_copyFrom_68 : decode cX2_copyFrom 68 = .ok (.iconst 0, 1) := by decide +kernel
theorem dX2_copyFrom_69 : decode cX2_copyFrom 69 = .ok (.iconst 3, 1) := by decide +kernel
theorem dX2_copyFrom_70 : decode cX2_copyFrom 70 = .ok (.invokestatic 48, 3) := by decide +kernel
theorem dX2_copyFrom_73 : decode cX2_copyFrom 73 = .ok (.aload_n 1, 1) := by decide +kernel
theorem dX2_copyFrom_74 : decode cX2_copyFrom 74 = .ok (.getfield 27, 3) := by decide +kernel
theorem dX2_copyFrom_77 : decode cX2_copyFrom 77 = .ok (.iconst 0, 1) := by decide +kernel
theorem dX2_copyFrom_78 : decode cX2_copyFrom 78 = .ok (.aload_n 0, 1) := by decide +kernel
theorem dX2_copyFrom_79 : decode cX2_copyFrom 79 = .ok (.getfield 27, 3) := by decide +kernel
theorem dX2_copyFrom_82 : decode cX2_copyFrom 82 = .ok (.iconst 0, 1) := by decide +kernel
theorem dX2_copyFrom_83 : decode cX2_copyFrom 83 = .ok (.iconst 3, 1) := by decide +kernel
theorem dX2_copyFrom_84 : decode cX2_copyFrom 84 = .ok (.invokestatic 48, 3) := by decide +kernel
theorem dX2_copyFrom_87 : decode cX2_copyFrom 87 = .ok (.aload_n 0, 1) := by decide +kernel
theorem dX2_copyFrom_88 : decode cX2_copyFrom 88 = .ok (.aload_n 1, 1) := by decide +kernel
theorem dX2_copyFrom_89 : decode cX2_copyFrom 89 = .ok (.getfield 34, 3) := by decide +kernel
theorem dX2_copyFrom_92 : decode cX2_copyFrom 92 = .ok (.putfield 34, 3) := by decide +kernel
theorem dX2_copyFrom_95 : decode cX2_copyFrom 95 = .ok (.aload_n 0, 1) := by decide +kernel
theorem dX2_copyFrom_96 : decode cX2_copyFrom 96 = .ok (.aload_n 1, 1) := by decide +kernel
theorem dX2_copyFrom_97 : decode cX2_copyFrom 97 = .ok (.getfield 38, 3) := by decide +kernel
theorem dX2_copyFrom_100 : decode cX2_copyFrom 100 = .ok (.putfield 38, 3) := by decide +kernel
theorem dX2_copyFrom_103 : decode cX2_copyFrom 103 = .ok (.aload_n 0, 1) := by decide +kernel
theorem dX2_copyFrom_104 : decode cX2_copyFrom 104 = .ok (.aload_n 1, 1) := by decide +kernel
theorem dX2_copyFrom_105 : decode cX2_copyFrom 105 = .ok (.getfield 41, 3) := by decide +kernel
theorem dX2_copyFrom_108 : decode cX2_copyFrom 108 = .ok (.putfield 41, 3) := by decide +kernel
theorem dX2_copyFrom_111 : decode cX2_copyFrom 111 = .ok (.aload_n 0, 1) := by decide +kernel
theorem dX2_copyFrom_112 : decode cX2_copyFrom 112 = .ok (.dup, 1) := by decide +kernel
theorem dX2_copyFrom_113 : decode cX2_copyFrom 113 = .ok (.getfield 45, 3) := by decide +kernel
theorem dX2_copyFrom_116 : decode cX2_copyFrom 116 = .ok (.iconst 1, 1) := by decide +kernel
theorem dX2_copyFrom_117 : decode cX2_copyFrom 117 = .ok (.iadd, 1) := by decide +kernel
theorem dX2_copyFrom_118 : decode cX2_copyFrom 118 = .ok (.putfield 45, 3) := by decide +kernel
theorem dX2_copyFrom_121 : decode cX2_copyFrom 121 = .ok (.return_, 1) := by decide +kernel
theorem dX2_hasWoman_0 : decode cX2_hasWoman 0 = .ok (.iload_n 1, 1) := by decide +kernel
theorem dX2_hasWoman_1 : decode cX2_hasWoman 1 = .ok (.ifCond .lt 20, 3) := by decide +kernel
theorem dX2_hasWoman_4 : decode cX2_hasWoman 4 = .ok (.iload_n 1, 1) := by decide +kernel
theorem dX2_hasWoman_5 : decode cX2_hasWoman 5 = .ok (.aload_n 0, 1) := by decide +kernel
theorem dX2_hasWoman_6 : decode cX2_hasWoman 6 = .ok (.getfield 34, 3) := by decide +kernel
theorem dX2_hasWoman_9 : decode cX2_hasWoman 9 = .ok (.if_icmp .ge 12, 3) := by decide +kernel
theorem dX2_hasWoman_12 : decode cX2_hasWoman 12 = .ok (.iload_n 1, 1) := by decide +kernel
theorem dX2_hasWoman_13 : decode cX2_hasWoman 13 = .ok (.iconst 3, 1) := by decide +kernel
theorem dX2_hasWoman_14 : decode cX2_hasWoman 14 = .ok (.if_icmp .ge 7, 3) := by decide +kernel
theorem dX2_hasWoman_17 : decode cX2_hasWoman 17 = .ok (.iconst 1, 1) := by decide +kernel
theorem dX2_hasWoman_18 : decode cX2_hasWoman 18 = .ok (.goto 4, 3) := by decide +kernel
theorem dX2_hasWoman_21 : decode cX2_hasWoman 21 = .ok (.iconst 0, 1) := by decide +kernel
theorem dX2_hasWoman_22 : decode cX2_hasWoman 22 = .ok (.ireturn, 1) := by decide +kernel
theorem dX2_isFree_0 : decode cX2_isFree 0 = .ok (.iload_n 1, 1) := by decide +kernel
theorem dX2_isFree_1 : decode cX2_isFree 1 = .ok (.ifCond .lt 29, 3) := by decide +kernel
theorem dX2_isFree_4 : decode cX2_isFree 4 = .ok (.iload_n 1, 1) := by decide +kernel
theorem dX2_isFree_5 : decode cX2_isFree 5 = .ok (.aload_n 0, 1) := by decide +kernel
theorem dX2_isFree_6 : decode cX2_isFree 6 = .ok (.getfield 34, 3) := by decide +kernel
theorem dX2_isFree_9 : decode cX2_isFree 9 = .ok (.if_icmp .ge 21, 3) := by decide +kernel
theorem dX2_isFree_12 : decode cX2_isFree 12 = .ok (.iload_n 1, 1) := by decide +kernel
theorem dX2_isFree_13 : decode cX2_isFree 13 = .ok (.iconst 3, 1) := by decide +kernel
theorem dX2_isFree_14 : decode cX2_isFree 14 = .ok (.if_icmp .ge 16, 3) := by decide +kernel
theorem dX2_isFree_17 : decode cX2_isFree 17 = .ok (.aload_n 0, 1) := by decide +kernel
theorem dX2_isFree_18 : decode cX2_isFree 18 = .ok (.getfield 21, 3) := by decide +kernel
theorem dX2_isFree_21 : decode cX2_isFree 21 = .ok (.iload_n 1, 1) := by decide +kernel
theorem dX2_isFree_22 : decode cX2_isFree 22 = .ok (.iaload, 1) := by decide +kernel
theorem dX2_isFree_23 : decode cX2_isFree 23 = .ok (.ifCond .ne 7, 3) := by decide +kernel
theorem dX2_isFree_26 : decode cX2_isFree 26 = .ok (.iconst 1, 1) := by decide +kernel
theorem dX2_isFree_27 : decode cX2_isFree 27 = .ok (.goto 4, 3) := by decide +kernel
theorem dX2_isFree_30 : decode cX2_isFree 30 = .ok (.iconst 0, 1) := by decide +kernel
theorem dX2_isFree_31 : decode cX2_isFree 31 = .ok (.ireturn, 1) := by decide +kernel
theorem dX2_isBare_0 : decode cX2_isBare 0 = .ok (.iload_n 1, 1) := by decide +kernel
theorem dX2_isBare_1 : decode cX2_isBare 1 = .ok (.ifCond .lt 33, 3) := by decide +kernel
theorem dX2_isBare_4 : decode cX2_isBare 4 = .ok (.iload_n 1, 1) := by decide +kernel
theorem dX2_isBare_5 : decode cX2_isBare 5 = .ok (.aload_n 0, 1) := by decide +kernel
theorem dX2_isBare_6 : decode cX2_isBare 6 = .ok (.getfield 30, 3) := by decide +kernel
theorem dX2_isBare_9 : decode cX2_isBare 9 = .ok (.getfield 54, 3) := by decide +kernel
theorem dX2_isBare_12 : decode cX2_isBare 12 = .ok (.if_icmp .ge 22, 3) := by decide +kernel
theorem dX2_isBare_15 : decode cX2_isBare 15 = .ok (.iload_n 1, 1) := by decide +kernel
theorem dX2_isBare_16 : decode cX2_isBare 16 = .ok (.bipush 6, 2) := by decide +kernel
theorem dX2_isBare_18 : decode cX2_isBare 18 = .ok (.if_icmp .ge 16, 3) := by decide +kernel
theorem dX2_isBare_21 : decode cX2_isBare 21 = .ok (.aload_n 0, 1) := by decide +kernel
theorem dX2_isBare_22 : decode cX2_isBare 22 = .ok (.getfield 9, 3) := by decide +kernel
theorem dX2_isBare_25 : decode cX2_isBare 25 = .ok (.iload_n 1, 1) := by decide +kernel
theorem dX2_isBare_26 : decode cX2_isBare 26 = .ok (.iaload, 1) := by decide +kernel
theorem dX2_isBare_27 : decode cX2_isBare 27 = .ok (.ifCond .ne 7, 3) := by decide +kernel
theorem dX2_isBare_30 : decode cX2_isBare 30 = .ok (.iconst 1, 1) := by decide +kernel
theorem dX2_isBare_31 : decode cX2_isBare 31 = .ok (.goto 4, 3) := by decide +kernel
theorem dX2_isBare_34 : decode cX2_isBare 34 = .ok (.iconst 0, 1) := by decide +kernel
theorem dX2_isBare_35 : decode cX2_isBare 35 = .ok (.ireturn, 1) := by decide +kernel
theorem dX2_lowestFree_0 : decode cX2_lowestFree 0 = .ok (.iconst 0, 1) := by decide +kernel
theorem dX2_lowestFree_1 : decode cX2_lowestFree 1 = .ok (.istore_n 1, 1) := by decide +kernel
theorem dX2_lowestFree_2 : decode cX2_lowestFree 2 = .ok (.iload_n 1, 1) := by decide +kernel
theorem dX2_lowestFree_3 : decode cX2_lowestFree 3 = .ok (.aload_n 0, 1) := by decide +kernel
theorem dX2_lowestFree_4 : decode cX2_lowestFree 4 = .ok (.getfield 34, 3) := by decide +kernel
theorem dX2_lowestFree_7 : decode cX2_lowestFree 7 = .ok (.if_icmp .ge 19, 3) := by decide +kernel
theorem dX2_lowestFree_10 : decode cX2_lowestFree 10 = .ok (.aload_n 0, 1) := by decide +kernel
theorem dX2_lowestFree_11 : decode cX2_lowestFree 11 = .ok (.iload_n 1, 1) := by decide +kernel
theorem dX2_lowestFree_12 : decode cX2_lowestFree 12 = .ok (.invokevirtual 59, 3) := by decide +kernel
theorem dX2_lowestFree_15 : decode cX2_lowestFree 15 = .ok (.ifCond .eq 5, 3) := by decide +kernel
theorem dX2_lowestFree_18 : decode cX2_lowestFree 18 = .ok (.iload_n 1, 1) := by decide +kernel
theorem dX2_lowestFree_19 : decode cX2_lowestFree 19 = .ok (.ireturn, 1) := by decide +kernel
theorem dX2_lowestFree_20 : decode cX2_lowestFree 20 = .ok (.iinc 1 1, 3) := by decide +kernel
theorem dX2_lowestFree_23 : decode cX2_lowestFree 23 = .ok (.goto (-21), 3) := by decide +kernel
theorem dX2_lowestFree_26 : decode cX2_lowestFree 26 = .ok (.bipush (-4), 2) := by decide +kernel
theorem dX2_lowestFree_28 : decode cX2_lowestFree 28 = .ok (.ireturn, 1) := by decide +kernel
theorem dX2_highestFree_0 : decode cX2_highestFree 0 = .ok (.aload_n 0, 1) := by decide +kernel
theorem dX2_highestFree_1 : decode cX2_highestFree 1 = .ok (.getfield 34, 3) := by decide +kernel
theorem dX2_highestFree_4 : decode cX2_highestFree 4 = .ok (.iconst 1, 1) := by decide +kernel
theorem dX2_highestFree_5 : decode cX2_highestFree 5 = .ok (.isub, 1) := by decide +kernel
theorem dX2_highestFree_6 : decode cX2_highestFree 6 = .ok (.istore_n 1, 1) := by decide +kernel
theorem dX2_highestFree_7 : decode cX2_highestFree 7 = .ok (.iload_n 1, 1) := by decide +kernel
theorem dX2_highestFree_8 : decode cX2_highestFree 8 = .ok (.ifCond .lt 19, 3) := by decide +kernel
theorem dX2_highestFree_11 : decode cX2_highestFree 11 = .ok (.aload_n 0, 1) := by decide +kernel
theorem dX2_highestFree_12 : decode cX2_highestFree 12 = .ok (.iload_n 1, 1) := by decide +kernel
theorem dX2_highestFree_13 : decode cX2_highestFree 13 = .ok (.invokevirtual 59, 3) := by decide +kernel
theorem dX2_highestFree_16 : decode cX2_highestFree 16 = .ok (.ifCond .eq 5, 3) := by decide +kernel
theorem dX2_highestFree_19 : decode cX2_highestFree 19 = .ok (.iload_n 1, 1) := by decide +kernel
theorem dX2_highestFree_20 : decode cX2_highestFree 20 = .ok (.ireturn, 1) := by decide +kernel
theorem dX2_highestFree_21 : decode cX2_highestFree 21 = .ok (.iinc 1 (-1), 3) := by decide +kernel
theorem dX2_highestFree_24 : decode cX2_highestFree 24 = .ok (.goto (-17), 3) := by decide +kernel
theorem dX2_highestFree_27 : decode cX2_highestFree 27 = .ok (.bipush (-4), 2) := by decide +kernel
theorem dX2_highestFree_29 : decode cX2_highestFree 29 = .ok (.ireturn, 1) := by decide +kernel
theorem dX2_countChildren_0 : decode cX2_countChildren 0 = .ok (.iconst 0, 1) := by decide +kernel
theorem dX2_countChildren_1 : decode cX2_countChildren 1 = .ok (.istore_n 2, 1) := by decide +kernel
theorem dX2_countChildren_2 : decode cX2_countChildren 2 = .ok (.iconst 0, 1) := by decide +kernel
theorem dX2_countChildren_3 : decode cX2_countChildren 3 = .ok (.istore_n 3, 1) := by decide +kernel
theorem dX2_countChildren_4 : decode cX2_countChildren 4 = .ok (.iload_n 3, 1) := by decide +kernel
theorem dX2_countChildren_5 : decode cX2_countChildren 5 = .ok (.aload_n 0, 1) := by decide +kernel
theorem dX2_countChildren_6 : decode cX2_countChildren 6 = .ok (.getfield 30, 3) := by decide +kernel
theorem dX2_countChildren_9 : decode cX2_countChildren 9 = .ok (.getfield 54, 3) := by decide +kernel
theorem dX2_countChildren_12 : decode cX2_countChildren 12 = .ok (.if_icmp .ge 28, 3) := by decide +kernel
theorem dX2_countChildren_15 : decode cX2_countChildren 15 = .ok (.iload_n 3, 1) := by decide +kernel
theorem dX2_countChildren_16 : decode cX2_countChildren 16 = .ok (.bipush 6, 2) := by decide +kernel
theorem dX2_countChildren_18 : decode cX2_countChildren 18 = .ok (.if_icmp .ge 22, 3) := by decide +kernel
theorem dX2_countChildren_21 : decode cX2_countChildren 21 = .ok (.aload_n 0, 1) := by decide +kernel
theorem dX2_countChildren_22 : decode cX2_countChildren 22 = .ok (.getfield 9, 3) := by decide +kernel
theorem dX2_countChildren_25 : decode cX2_countChildren 25 = .ok (.iload_n 3, 1) := by decide +kernel
theorem dX2_countChildren_26 : decode cX2_countChildren 26 = .ok (.iaload, 1) := by decide +kernel
theorem dX2_countChildren_27 : decode cX2_countChildren 27 = .ok (.iload_n 1, 1) := by decide +kernel
theorem dX2_countChildren_28 : decode cX2_countChildren 28 = .ok (.if_icmp .ne 6, 3) := by decide +kernel
theorem dX2_countChildren_31 : decode cX2_countChildren 31 = .ok (.iinc 2 1, 3) := by decide +kernel
theorem dX2_countChildren_34 : decode cX2_countChildren 34 = .ok (.iinc 3 1, 3) := by decide +kernel
theorem dX2_countChildren_37 : decode cX2_countChildren 37 = .ok (.goto (-33), 3) := by decide +kernel
theorem dX2_countChildren_40 : decode cX2_countChildren 40 = .ok (.iload_n 2, 1) := by decide +kernel
theorem dX2_countChildren_41 : decode cX2_countChildren 41 = .ok (.ireturn, 1) := by decide +kernel
theorem dX2_countWomen_0 : decode cX2_countWomen 0 = .ok (.iconst 0, 1) := by decide +kernel
theorem dX2_countWomen_1 : decode cX2_countWomen 1 = .ok (.istore_n 2, 1) := by decide +kernel
theorem dX2_countWomen_2 : decode cX2_countWomen 2 = .ok (.iconst 0, 1) := by decide +kernel
theorem dX2_countWomen_3 : decode cX2_countWomen 3 = .ok (.istore_n 3, 1) := by decide +kernel
theorem dX2_countWomen_4 : decode cX2_countWomen 4 = .ok (.iload_n 3, 1) := by decide +kernel
theorem dX2_countWomen_5 : decode cX2_countWomen 5 = .ok (.aload_n 0, 1) := by decide +kernel
theorem dX2_countWomen_6 : decode cX2_countWomen 6 = .ok (.getfield 34, 3) := by decide +kernel
theorem dX2_countWomen_9 : decode cX2_countWomen 9 = .ok (.if_icmp .ge 27, 3) := by decide +kernel
theorem dX2_countWomen_12 : decode cX2_countWomen 12 = .ok (.iload_n 3, 1) := by decide +kernel
theorem dX2_countWomen_13 : decode cX2_countWomen 13 = .ok (.iconst 3, 1) := by decide +kernel
theorem dX2_countWomen_14 : decode cX2_countWomen 14 = .ok (.if_icmp .ge 22, 3) := by decide +kernel
theorem dX2_countWomen_17 : decode cX2_countWomen 17 = .ok (.aload_n 0, 1) := by decide +kernel
theorem dX2_countWomen_18 : decode cX2_countWomen 18 = .ok (.getfield 21, 3) := by decide +kernel
theorem dX2_countWomen_21 : decode cX2_countWomen 21 = .ok (.iload_n 3, 1) := by decide +kernel
theorem dX2_countWomen_22 : decode cX2_countWomen 22 = .ok (.iaload, 1) := by decide +kernel
theorem dX2_countWomen_23 : decode cX2_countWomen 23 = .ok (.iload_n 1, 1) := by decide +kernel
theorem dX2_countWomen_24 : decode cX2_countWomen 24 = .ok (.if_icmp .ne 6, 3) := by decide +kernel
theorem dX2_countWomen_27 : decode cX2_countWomen 27 = .ok (.iinc 2 1, 3) := by decide +kernel
theorem dX2_countWomen_30 : decode cX2_countWomen 30 = .ok (.iinc 3 1, 3) := by decide +kernel
theorem dX2_countWomen_33 : decode cX2_countWomen 33 = .ok (.goto (-29), 3) := by decide +kernel
theorem dX2_countWomen_36 : decode cX2_countWomen 36 = .ok (.iload_n 2, 1) := by decide +kernel
theorem dX2_countWomen_37 : decode cX2_countWomen 37 = .ok (.ireturn, 1) := by decide +kernel
theorem dX2_oneWomanLeft_0 : decode cX2_oneWomanLeft 0 = .ok (.aload_n 0, 1) := by decide +kernel
theorem dX2_oneWomanLeft_1 : decode cX2_oneWomanLeft 1 = .ok (.iconst 3, 1) := by decide +kernel
theorem dX2_oneWomanLeft_2 : decode cX2_oneWomanLeft 2 = .ok (.invokevirtual 63, 3) := by decide +kernel
theorem dX2_oneWomanLeft_5 : decode cX2_oneWomanLeft 5 = .ok (.aload_n 0, 1) := by decide +kernel
theorem dX2_oneWomanLeft_6 : decode cX2_oneWomanLeft 6 = .ok (.getfield 34, 3) := by decide +kernel
theorem dX2_oneWomanLeft_9 : decode cX2_oneWomanLeft 9 = .ok (.iconst 1, 1) := by decide +kernel
theorem dX2_oneWomanLeft_10 : decode cX2_oneWomanLeft 10 = .ok (.isub, 1) := by decide +kernel
theorem dX2_oneWomanLeft_11 : decode cX2_oneWomanLeft 11 = .ok (.if_icmp .ne 7, 3) := by decide +kernel
theorem dX2_oneWomanLeft_14 : decode cX2_oneWomanLeft 14 = .ok (.iconst 1, 1) := by decide +kernel
theorem dX2_oneWomanLeft_15 : decode cX2_oneWomanLeft 15 = .ok (.goto 4, 3) := by decide +kernel
theorem dX2_oneWomanLeft_18 : decode cX2_oneWomanLeft 18 = .ok (.iconst 0, 1) := by decide +kernel
theorem dX2_oneWomanLeft_19 : decode cX2_oneWomanLeft 19 = .ok (.ireturn, 1) := by decide +kernel
theorem dX2_allAreOut_0 : decode cX2_allAreOut 0 = .ok (.aload_n 0, 1) := by decide +kernel
theorem dX2_allAreOut_1 : decode cX2_allAreOut 1 = .ok (.iconst 3, 1) := by decide +kernel
theorem dX2_allAreOut_2 : decode cX2_allAreOut 2 = .ok (.invokevirtual 67, 3) := by decide +kernel
theorem dX2_allAreOut_5 : decode cX2_allAreOut 5 = .ok (.aload_n 0, 1) := by decide +kernel
theorem dX2_allAreOut_6 : decode cX2_allAreOut 6 = .ok (.getfield 30, 3) := by decide +kernel
theorem dX2_allAreOut_9 : decode cX2_allAreOut 9 = .ok (.getfield 54, 3) := by decide +kernel
theorem dX2_allAreOut_12 : decode cX2_allAreOut 12 = .ok (.if_icmp .ne 7, 3) := by decide +kernel
theorem dX2_allAreOut_15 : decode cX2_allAreOut 15 = .ok (.iconst 1, 1) := by decide +kernel
theorem dX2_allAreOut_16 : decode cX2_allAreOut 16 = .ok (.goto 4, 3) := by decide +kernel
theorem dX2_allAreOut_19 : decode cX2_allAreOut 19 = .ok (.iconst 0, 1) := by decide +kernel
theorem dX2_allAreOut_20 : decode cX2_allAreOut 20 = .ok (.ireturn, 1) := by decide +kernel
theorem dX2_whoIsOut_0 : decode cX2_whoIsOut 0 = .ok (.iconst 0, 1) := by decide +kernel
theorem dX2_whoIsOut_1 : decode cX2_whoIsOut 1 = .ok (.istore_n 1, 1) := by decide +kernel
theorem dX2_whoIsOut_2 : decode cX2_whoIsOut 2 = .ok (.iconst 0, 1) := by decide +kernel
theorem dX2_whoIsOut_3 : decode cX2_whoIsOut 3 = .ok (.istore_n 2, 1) := by decide +kernel
theorem dX2_whoIsOut_4 : decode cX2_whoIsOut 4 = .ok (.iload_n 2, 1) := by decide +kernel
theorem dX2_whoIsOut_5 : decode cX2_whoIsOut 5 = .ok (.aload_n 0, 1) := by decide +kernel
theorem dX2_whoIsOut_6 : decode cX2_whoIsOut 6 = .ok (.getfield 30, 3) := by decide +kernel
theorem dX2_whoIsOut_9 : decode cX2_whoIsOut 9 = .ok (.getfield 54, 3) := by decide +kernel
theorem dX2_whoIsOut_12 : decode cX2_whoIsOut 12 = .ok (.if_icmp .ge 31, 3) := by decide +kernel
theorem dX2_whoIsOut_15 : decode cX2_whoIsOut 15 = .ok (.iload_n 2, 1) := by decide +kernel
theorem dX2_whoIsOut_16 : decode cX2_whoIsOut 16 = .ok (.bipush 6, 2) := by decide +kernel
theorem dX2_whoIsOut_18 : decode cX2_whoIsOut 18 = .ok (.if_icmp .ge 25, 3) := by decide +kernel
theorem dX2_whoIsOut_21 : decode cX2_whoIsOut 21 = .ok (.aload_n 0, 1) := by decide +kernel
theorem dX2_whoIsOut_22 : decode cX2_whoIsOut 22 = .ok (.getfield 9, 3) := by decide +kernel
theorem dX2_whoIsOut_25 : decode cX2_whoIsOut 25 = .ok (.iload_n 2, 1) := by decide +kernel
theorem dX2_whoIsOut_26 : decode cX2_whoIsOut 26 = .ok (.iaload, 1) := by decide +kernel
theorem dX2_whoIsOut_27 : decode cX2_whoIsOut 27 = .ok (.iconst 3, 1) := by decide +kernel
theorem dX2_whoIsOut_28 : decode cX2_whoIsOut 28 = .ok (.if_icmp .ne 9, 3) := by decide +kernel
theorem dX2_whoIsOut_31 : decode cX2_whoIsOut 31 = .ok (.iload_n 1, 1) := by decide +kernel
theorem dX2_whoIsOut_32 : decode cX2_whoIsOut 32 = .ok (.iconst 1, 1) := by decide +kernel
theorem dX2_whoIsOut_33 : decode cX2_whoIsOut 33 = .ok (.iload_n 2, 1) := by decide +kernel
theorem dX2_whoIsOut_34 : decode cX2_whoIsOut 34 = .ok (.ishl, 1) := by decide +kernel
theorem dX2_whoIsOut_35 : decode cX2_whoIsOut 35 = .ok (.ior, 1) := by decide +kernel
theorem dX2_whoIsOut_36 : decode cX2_whoIsOut 36 = .ok (.istore_n 1, 1) := by decide +kernel
theorem dX2_whoIsOut_37 : decode cX2_whoIsOut 37 = .ok (.iinc 2 1, 3) := by decide +kernel
theorem dX2_whoIsOut_40 : decode cX2_whoIsOut 40 = .ok (.goto (-36), 3) := by decide +kernel
theorem dX2_whoIsOut_43 : decode cX2_whoIsOut 43 = .ok (.iload_n 1, 1) := by decide +kernel
theorem dX2_whoIsOut_44 : decode cX2_whoIsOut 44 = .ok (.ireturn, 1) := by decide +kernel
theorem dX2_boiledInAll_0 : decode cX2_boiledInAll 0 = .ok (.iconst 0, 1) := by decide +kernel
theorem dX2_boiledInAll_1 : decode cX2_boiledInAll 1 = .ok (.istore_n 1, 1) := by decide +kernel
theorem dX2_boiledInAll_2 : decode cX2_boiledInAll 2 = .ok (.iconst 0, 1) := by decide +kernel
theorem dX2_boiledInAll_3 : decode cX2_boiledInAll 3 = .ok (.istore_n 2, 1) := by decide +kernel
theorem dX2_boiledInAll_4 : decode cX2_boiledInAll 4 = .ok (.iload_n 2, 1) := by decide +kernel
theorem dX2_boiledInAll_5 : decode cX2_boiledInAll 5 = .ok (.bipush 6, 2) := by decide +kernel
theorem dX2_boiledInAll_7 : decode cX2_boiledInAll 7 = .ok (.if_icmp .ge 18, 3) := by decide +kernel
theorem dX2_boiledInAll_10 : decode cX2_boiledInAll 10 = .ok (.iload_n 1, 1) := by decide +kernel
theorem dX2_boiledInAll_11 : decode cX2_boiledInAll 11 = .ok (.aload_n 0, 1) := by decide +kernel
theorem dX2_boiledInAll_12 : decode cX2_boiledInAll 12 = .ok (.getfield 18, 3) := by decide +kernel
theorem dX2_boiledInAll_15 : decode cX2_boiledInAll 15 = .ok (.iload_n 2, 1) := by decide +kernel
theorem dX2_boiledInAll_16 : decode cX2_boiledInAll 16 = .ok (.iaload, 1) := by decide +kernel
theorem dX2_boiledInAll_17 : decode cX2_boiledInAll 17 = .ok (.iadd, 1) := by decide +kernel
theorem dX2_boiledInAll_18 : decode cX2_boiledInAll 18 = .ok (.istore_n 1, 1) := by decide +kernel
theorem dX2_boiledInAll_19 : decode cX2_boiledInAll 19 = .ok (.iinc 2 1, 3) := by decide +kernel
theorem dX2_boiledInAll_22 : decode cX2_boiledInAll 22 = .ok (.goto (-18), 3) := by decide +kernel
theorem dX2_boiledInAll_25 : decode cX2_boiledInAll 25 = .ok (.iload_n 1, 1) := by decide +kernel
theorem dX2_boiledInAll_26 : decode cX2_boiledInAll 26 = .ok (.ireturn, 1) := by decide +kernel
theorem dX2_whoDresses_0 : decode cX2_whoDresses 0 = .ok (.iconst 0, 1) := by decide +kernel
theorem dX2_whoDresses_1 : decode cX2_whoDresses 1 = .ok (.istore_n 2, 1) := by decide +kernel
theorem dX2_whoDresses_2 : decode cX2_whoDresses 2 = .ok (.iload_n 2, 1) := by decide +kernel
theorem dX2_whoDresses_3 : decode cX2_whoDresses 3 = .ok (.aload_n 0, 1) := by decide +kernel
theorem dX2_whoDresses_4 : decode cX2_whoDresses 4 = .ok (.getfield 34, 3) := by decide +kernel
theorem dX2_whoDresses_7 : decode cX2_whoDresses 7 = .ok (.if_icmp .ge 36, 3) := by decide +kernel
theorem dX2_whoDresses_10 : decode cX2_whoDresses 10 = .ok (.iload_n 2, 1) := by decide +kernel
theorem dX2_whoDresses_11 : decode cX2_whoDresses 11 = .ok (.iconst 3, 1) := by decide +kernel
theorem dX2_whoDresses_12 : decode cX2_whoDresses 12 = .ok (.if_icmp .ge 31, 3) := by decide +kernel
theorem dX2_whoDresses_15 : decode cX2_whoDresses 15 = .ok (.aload_n 0, 1) := by decide +kernel
theorem dX2_whoDresses_16 : decode cX2_whoDresses 16 = .ok (.getfield 21, 3) := by decide +kernel
theorem dX2_whoDresses_19 : decode cX2_whoDresses 19 = .ok (.iload_n 2, 1) := by decide +kernel
theorem dX2_whoDresses_20 : decode cX2_whoDresses 20 = .ok (.iaload, 1) := by decide +kernel
theorem dX2_whoDresses_21 : decode cX2_whoDresses 21 = .ok (.iconst 1, 1) := by decide +kernel
theorem dX2_whoDresses_22 : decode cX2_whoDresses 22 = .ok (.if_icmp .ne 15, 3) := by decide +kernel
theorem dX2_whoDresses_25 : decode cX2_whoDresses 25 = .ok (.aload_n 0, 1) := by decide +kernel
theorem dX2_whoDresses_26 : decode cX2_whoDresses 26 = .ok (.getfield 27, 3) := by decide +kernel
theorem dX2_whoDresses_29 : decode cX2_whoDresses 29 = .ok (.iload_n 2, 1) := by decide +kernel
theorem dX2_whoDresses_30 : decode cX2_whoDresses 30 = .ok (.iaload, 1) := by decide +kernel
theorem dX2_whoDresses_31 : decode cX2_whoDresses 31 = .ok (.iload_n 1, 1) := by decide +kernel
theorem dX2_whoDresses_32 : decode cX2_whoDresses 32 = .ok (.if_icmp .ne 5, 3) := by decide +kernel
theorem dX2_whoDresses_35 : decode cX2_whoDresses 35 = .ok (.iload_n 2, 1) := by decide +kernel
theorem dX2_whoDresses_36 : decode cX2_whoDresses 36 = .ok (.ireturn, 1) := by decide +kernel
theorem dX2_whoDresses_37 : decode cX2_whoDresses 37 = .ok (.iinc 2 1, 3) := by decide +kernel
theorem dX2_whoDresses_40 : decode cX2_whoDresses 40 = .ok (.goto (-38), 3) := by decide +kernel
theorem dX2_whoDresses_43 : decode cX2_whoDresses 43 = .ok (.bipush (-4), 2) := by decide +kernel
theorem dX2_whoDresses_45 : decode cX2_whoDresses 45 = .ok (.ireturn, 1) := by decide +kernel
theorem dX2_minutesToDress_0 : decode cX2_minutesToDress 0 = .ok (.aload_n 0, 1) := by decide +kernel
theorem dX2_minutesToDress_1 : decode cX2_minutesToDress 1 = .ok (.getfield 30, 3) := by decide +kernel
theorem dX2_minutesToDress_4 : decode cX2_minutesToDress 4 = .ok (.iload_n 1, 1) := by decide +kernel
theorem dX2_minutesToDress_5 : decode cX2_minutesToDress 5 = .ok (.invokevirtual 70, 3) := by decide +kernel
theorem dX2_minutesToDress_8 : decode cX2_minutesToDress 8 = .ok (.ifCond .eq 31, 3) := by decide +kernel
theorem dX2_minutesToDress_11 : decode cX2_minutesToDress 11 = .ok (.aload_n 0, 1) := by decide +kernel
theorem dX2_minutesToDress_12 : decode cX2_minutesToDress 12 = .ok (.getfield 30, 3) := by decide +kernel
theorem dX2_minutesToDress_15 : decode cX2_minutesToDress 15 = .ok (.getfield 73, 3) := by decide +kernel
theorem dX2_minutesToDress_18 : decode cX2_minutesToDress 18 = .ok (.iload_n 1, 1) := by decide +kernel
theorem dX2_minutesToDress_19 : decode cX2_minutesToDress 19 = .ok (.iaload, 1) := by decide +kernel
theorem dX2_minutesToDress_20 : decode cX2_minutesToDress 20 = .ok (.aload_n 0, 1) := by decide +kernel
theorem dX2_minutesToDress_21 : decode cX2_minutesToDress 21 = .ok (.getfield 30, 3) := by decide +kernel
theorem dX2_minutesToDress_24 : decode cX2_minutesToDress 24 = .ok (.getfield 76, 3) := by decide +kernel
theorem dX2_minutesToDress_27 : decode cX2_minutesToDress 27 = .ok (.iload_n 1, 1) := by decide +kernel
theorem dX2_minutesToDress_28 : decode cX2_minutesToDress 28 = .ok (.iaload, 1) := by decide +kernel
theorem dX2_minutesToDress_29 : decode cX2_minutesToDress 29 = .ok (.aload_n 0, 1) := by decide +kernel
theorem dX2_minutesToDress_30 : decode cX2_minutesToDress 30 = .ok (.getfield 41, 3) := by decide +kernel
theorem dX2_minutesToDress_33 : decode cX2_minutesToDress 33 = .ok (.invokestatic 79, 3) := by decide +kernel
theorem dX2_minutesToDress_36 : decode cX2_minutesToDress 36 = .ok (.goto 5, 3) := by decide +kernel
theorem dX2_minutesToDress_39 : decode cX2_minutesToDress 39 = .ok (.bipush (-4), 2) := by decide +kernel
theorem dX2_minutesToDress_41 : decode cX2_minutesToDress 41 = .ok (.ireturn, 1) := by decide +kernel
theorem dX2_canDress_0 : decode cX2_canDress 0 = .ok (.aload_n 0, 1) := by decide +kernel
theorem dX2_canDress_1 : decode cX2_canDress 1 = .ok (.iload_n 1, 1) := by decide +kernel
theorem dX2_canDress_2 : decode cX2_canDress 2 = .ok (.invokevirtual 59, 3) := by decide +kernel
theorem dX2_canDress_5 : decode cX2_canDress 5 = .ok (.ifCond .eq 15, 3) := by decide +kernel
theorem dX2_canDress_8 : decode cX2_canDress 8 = .ok (.aload_n 0, 1) := by decide +kernel
theorem dX2_canDress_9 : decode cX2_canDress 9 = .ok (.iload_n 2, 1) := by decide +kernel
theorem dX2_canDress_10 : decode cX2_canDress 10 = .ok (.invokevirtual 83, 3) := by decide +kernel
theorem dX2_canDress_13 : decode cX2_canDress 13 = .ok (.ifCond .eq 7, 3) := by decide +kernel
theorem dX2_canDress_16 : decode cX2_canDress 16 = .ok (.iconst 1, 1) := by decide +kernel
theorem dX2_canDress_17 : decode cX2_canDress 17 = .ok (.goto 4, 3) := by decide +kernel
theorem dX2_canDress_20 : decode cX2_canDress 20 = .ok (.iconst 0, 1) := by decide +kernel
theorem dX2_canDress_21 : decode cX2_canDress 21 = .ok (.ireturn, 1) := by decide +kernel
theorem dX2_dress_0 : decode cX2_dress 0 = .ok (.aload_n 0, 1) := by decide +kernel
theorem dX2_dress_1 : decode cX2_dress 1 = .ok (.iload_n 1, 1) := by decide +kernel
theorem dX2_dress_2 : decode cX2_dress 2 = .ok (.iload_n 2, 1) := by decide +kernel
theorem dX2_dress_3 : decode cX2_dress 3 = .ok (.invokevirtual 86, 3) := by decide +kernel
theorem dX2_dress_6 : decode cX2_dress 6 = .ok (.ifCond .ne 6, 3) := by decide +kernel
theorem dX2_dress_9 : decode cX2_dress 9 = .ok (.bipush (-2), 2) := by decide +kernel
theorem dX2_dress_11 : decode cX2_dress 11 = .ok (.ireturn, 1) := by decide +kernel
theorem dX2_dress_12 : decode cX2_dress 12 = .ok (.aload_n 0, 1) := by decide +kernel
theorem dX2_dress_13 : decode cX2_dress 13 = .ok (.getfield 21, 3) := by decide +kernel
theorem dX2_dress_16 : decode cX2_dress 16 = .ok (.iload_n 1, 1) := by decide +kernel
theorem dX2_dress_17 : decode cX2_dress 17 = .ok (.iconst 1, 1) := by decide +kernel
theorem dX2_dress_18 : decode cX2_dress 18 = .ok (.iastore, 1) := by decide +kernel
theorem dX2_dress_19 : decode cX2_dress 19 = .ok (.aload_n 0, 1) := by decide +kernel
theorem dX2_dress_20 : decode cX2_dress 20 = .ok (.getfield 24, 3) := by decide +kernel
theorem dX2_dress_23 : decode cX2_dress 23 = .ok (.iload_n 1, 1) := by decide +kernel
theorem dX2_dress_24 : decode cX2_dress 24 = .ok (.aload_n 0, 1) := by decide +kernel
theorem dX2_dress_25 : decode cX2_dress 25 = .ok (.iload_n 2, 1) := by decide +kernel
theorem dX2_dress_26 : decode cX2_dress 26 = .ok (.invokevirtual 90, 3) := by decide +kernel
theorem dX2_dress_29 : decode cX2_dress 29 = .ok (.iastore, 1) := by decide +kernel
theorem dX2_dress_30 : decode cX2_dress 30 = .ok (.aload_n 0, 1) := by decide +kernel
theorem dX2_dress_31 : decode cX2_dress 31 = .ok (.getfield 27, 3) := by decide +kernel
theorem dX2_dress_34 : decode cX2_dress 34 = .ok (.iload_n 1, 1) := by decide +kernel
theorem dX2_dress_35 : decode cX2_dress 35 = .ok (.iload_n 2, 1) := by decide +kernel
theorem dX2_dress_36 : decode cX2_dress 36 = .ok (.iastore, 1) := by decide +kernel
theorem dX2_dress_37 : decode cX2_dress 37 = .ok (.aload_n 0, 1) := by decide +kernel
theorem dX2_dress_38 : decode cX2_dress 38 = .ok (.getfield 9, 3) := by decide +kernel
theorem dX2_dress_41 : decode cX2_dress 41 = .ok (.iload_n 2, 1) := by decide +kernel
theorem dX2_dress_42 : decode cX2_dress 42 = .ok (.iconst 1, 1) := by decide +kernel
theorem dX2_dress_43 : decode cX2_dress 43 = .ok (.iastore, 1) := by decide +kernel
theorem dX2_dress_44 : decode cX2_dress 44 = .ok (.aload_n 0, 1) := by decide +kernel
theorem dX2_dress_45 : decode cX2_dress 45 = .ok (.dup, 1) := by decide +kernel
theorem dX2_dress_46 : decode cX2_dress 46 = .ok (.getfield 45, 3) := by decide +kernel
theorem dX2_dress_49 : decode cX2_dress 49 = .ok (.iconst 1, 1) := by decide +kernel
theorem dX2_dress_50 : decode cX2_dress 50 = .ok (.iadd, 1) := by decide +kernel
theorem dX2_dress_51 : decode cX2_dress 51 = .ok (.putfield 45, 3) := by decide +kernel
theorem dX2_dress_54 : decode cX2_dress 54 = .ok (.aload_n 0, 1) := by decide +kernel
theorem dX2_dress_55 : decode cX2_dress 55 = .ok (.getfield 24, 3) := by decide +kernel
theorem dX2_dress_58 : decode cX2_dress 58 = .ok (.iload_n 1, 1) := by decide +kernel
theorem dX2_dress_59 : decode cX2_dress 59 = .ok (.iaload, 1) := by decide +kernel
theorem dX2_dress_60 : decode cX2_dress 60 = .ok (.ireturn, 1) := by decide +kernel
theorem dX2_canLayThings_0 : decode cX2_canLayThings 0 = .ok (.aload_n 0, 1) := by decide +kernel
theorem dX2_canLayThings_1 : decode cX2_canLayThings 1 = .ok (.iload_n 1, 1) := by decide +kernel
theorem dX2_canLayThings_2 : decode cX2_canLayThings 2 = .ok (.invokevirtual 59, 3) := by decide +kernel
theorem dX2_canLayThings_5 : decode cX2_canLayThings 5 = .ok (.ifCond .eq 22, 3) := by decide +kernel
theorem dX2_canLayThings_8 : decode cX2_canLayThings 8 = .ok (.aload_n 0, 1) := by decide +kernel
theorem dX2_canLayThings_9 : decode cX2_canLayThings 9 = .ok (.getfield 41, 3) := by decide +kernel
theorem dX2_canLayThings_12 : decode cX2_canLayThings 12 = .ok (.ifCond .ne 15, 3) := by decide +kernel
theorem dX2_canLayThings_15 : decode cX2_canLayThings 15 = .ok (.aload_n 0, 1) := by decide +kernel
theorem dX2_canLayThings_16 : decode cX2_canLayThings 16 = .ok (.iconst 2, 1) := by decide +kernel
theorem dX2_canLayThings_17 : decode cX2_canLayThings 17 = .ok (.invokevirtual 63, 3) := by decide +kernel
theorem dX2_canLayThings_20 : decode cX2_canLayThings 20 = .ok (.ifCond .ne 7, 3) := by decide +kernel
theorem dX2_canLayThings_23 : decode cX2_canLayThings 23 = .ok (.iconst 1, 1) := by decide +kernel
theorem dX2_canLayThings_24 : decode cX2_canLayThings 24 = .ok (.goto 4, 3) := by decide +kernel
theorem dX2_canLayThings_27 : decode cX2_canLayThings 27 = .ok (.iconst 0, 1) := by decide +kernel
theorem dX2_canLayThings_28 : decode cX2_canLayThings 28 = .ok (.ireturn, 1) := by decide +kernel
theorem dX2_layThings_0 : decode cX2_layThings 0 = .ok (.aload_n 0, 1) := by decide +kernel
theorem dX2_layThings_1 : decode cX2_layThings 1 = .ok (.iload_n 1, 1) := by decide +kernel
theorem dX2_layThings_2 : decode cX2_layThings 2 = .ok (.invokevirtual 93, 3) := by decide +kernel
theorem dX2_layThings_5 : decode cX2_layThings 5 = .ok (.ifCond .ne 6, 3) := by decide +kernel
theorem dX2_layThings_8 : decode cX2_layThings 8 = .ok (.bipush (-2), 2) := by decide +kernel
theorem dX2_layThings_10 : decode cX2_layThings 10 = .ok (.ireturn, 1) := by decide +kernel
theorem dX2_layThings_11 : decode cX2_layThings 11 = .ok (.aload_n 0, 1) := by decide +kernel
theorem dX2_layThings_12 : decode cX2_layThings 12 = .ok (.getfield 21, 3) := by decide +kernel
theorem dX2_layThings_15 : decode cX2_layThings 15 = .ok (.iload_n 1, 1) := by decide +kernel
theorem dX2_layThings_16 : decode cX2_layThings 16 = .ok (.iconst 2, 1) := by decide +kernel
theorem dX2_layThings_17 : decode cX2_layThings 17 = .ok (.iastore, 1) := by decide +kernel
theorem dX2_layThings_18 : decode cX2_layThings 18 = .ok (.aload_n 0, 1) := by decide +kernel
theorem dX2_layThings_19 : decode cX2_layThings 19 = .ok (.getfield 24, 3) := by decide +kernel
theorem dX2_layThings_22 : decode cX2_layThings 22 = .ok (.iload_n 1, 1) := by decide +kernel
theorem dX2_layThings_23 : decode cX2_layThings 23 = .ok (.iconst 3, 1) := by decide +kernel
theorem dX2_layThings_24 : decode cX2_layThings 24 = .ok (.iastore, 1) := by decide +kernel
theorem dX2_layThings_25 : decode cX2_layThings 25 = .ok (.aload_n 0, 1) := by decide +kernel
theorem dX2_layThings_26 : decode cX2_layThings 26 = .ok (.dup, 1) := by decide +kernel
theorem dX2_layThings_27 : decode cX2_layThings 27 = .ok (.getfield 45, 3) := by decide +kernel
theorem dX2_layThings_30 : decode cX2_layThings 30 = .ok (.iconst 1, 1) := by decide +kernel
theorem dX2_layThings_31 : decode cX2_layThings 31 = .ok (.iadd, 1) := by decide +kernel
theorem dX2_layThings_32 : decode cX2_layThings 32 = .ok (.putfield 45, 3) := by decide +kernel
theorem dX2_layThings_35 : decode cX2_layThings 35 = .ok (.aload_n 0, 1) := by decide +kernel
theorem dX2_layThings_36 : decode cX2_layThings 36 = .ok (.getfield 24, 3) := by decide +kernel
theorem dX2_layThings_39 : decode cX2_layThings 39 = .ok (.iload_n 1, 1) := by decide +kernel
theorem dX2_layThings_40 : decode cX2_layThings 40 = .ok (.iaload, 1) := by decide +kernel
theorem dX2_layThings_41 : decode cX2_layThings 41 = .ok (.ireturn, 1) := by decide +kernel
theorem dX2_canOpenDoor_0 : decode cX2_canOpenDoor 0 = .ok (.aload_n 0, 1) := by decide +kernel
theorem dX2_canOpenDoor_1 : decode cX2_canOpenDoor 1 = .ok (.iload_n 1, 1) := by decide +kernel
theorem dX2_canOpenDoor_2 : decode cX2_canOpenDoor 2 = .ok (.invokevirtual 59, 3) := by decide +kernel
theorem dX2_canOpenDoor_5 : decode cX2_canOpenDoor 5 = .ok (.ifCond .eq 15, 3) := by decide +kernel
theorem dX2_canOpenDoor_8 : decode cX2_canOpenDoor 8 = .ok (.aload_n 0, 1) := by decide +kernel
theorem dX2_canOpenDoor_9 : decode cX2_canOpenDoor 9 = .ok (.iconst 2, 1) := by decide +kernel
theorem dX2_canOpenDoor_10 : decode cX2_canOpenDoor 10 = .ok (.invokevirtual 67, 3) := by decide +kernel
theorem dX2_canOpenDoor_13 : decode cX2_canOpenDoor 13 = .ok (.ifCond .le 7, 3) := by decide +kernel
theorem dX2_canOpenDoor_16 : decode cX2_canOpenDoor 16 = .ok (.iconst 1, 1) := by decide +kernel
theorem dX2_canOpenDoor_17 : decode cX2_canOpenDoor 17 = .ok (.goto 4, 3) := by decide +kernel
theorem dX2_canOpenDoor_20 : decode cX2_canOpenDoor 20 = .ok (.iconst 0, 1) := by decide +kernel
theorem dX2_canOpenDoor_21 : decode cX2_canOpenDoor 21 = .ok (.ireturn, 1) := by decide +kernel
theorem dX2_openDoor_0 : decode cX2_openDoor 0 = .ok (.aload_n 0, 1) := by decide +kernel
theorem dX2_openDoor_1 : decode cX2_openDoor 1 = .ok (.iload_n 1, 1) := by decide +kernel
theorem dX2_openDoor_2 : decode cX2_openDoor 2 = .ok (.invokevirtual 96, 3) := by decide +kernel
theorem dX2_openDoor_5 : decode cX2_openDoor 5 = .ok (.ifCond .ne 6, 3) := by decide +kernel
theorem dX2_openDoor_8 : decode cX2_openDoor 8 = .ok (.bipush (-2), 2) := by decide +kernel
theorem dX2_openDoor_10 : decode cX2_openDoor 10 = .ok (.ireturn, 1) := by decide +kernel
theorem dX2_openDoor_11 : decode cX2_openDoor 11 = .ok (.aload_n 0, 1) := by decide +kernel
theorem dX2_openDoor_12 : decode cX2_openDoor 12 = .ok (.invokevirtual 99, 3) := by decide +kernel
theorem dX2_openDoor_15 : decode cX2_openDoor 15 = .ok (.ifCond .eq 8, 3) := by decide +kernel
theorem dX2_openDoor_18 : decode cX2_openDoor 18 = .ok (.bipush 6, 2) := by decide +kernel
theorem dX2_openDoor_20 : decode cX2_openDoor 20 = .ok (.goto 10, 3) := by decide +kernel
theorem dX2_openDoor_23 : decode cX2_openDoor 23 = .ok (.aload_n 0, 1) := by decide +kernel
theorem dX2_openDoor_24 : decode cX2_openDoor 24 = .ok (.getfield 30, 3) := by decide +kernel
theorem dX2_openDoor_27 : decode cX2_openDoor 27 = .ok (.getfield 103, 3) := by decide +kernel
theorem dX2_openDoor_30 : decode cX2_openDoor 30 = .ok (.istore_n 2, 1) := by decide +kernel
theorem dX2_openDoor_31 : decode cX2_openDoor 31 = .ok (.aload_n 0, 1) := by decide +kernel
theorem dX2_openDoor_32 : decode cX2_openDoor 32 = .ok (.getfield 21, 3) := by decide +kernel
theorem dX2_openDoor_35 : decode cX2_openDoor 35 = .ok (.iload_n 1, 1) := by decide +kernel
theorem dX2_openDoor_36 : decode cX2_openDoor 36 = .ok (.iconst 3, 1) := by decide +kernel
theorem dX2_openDoor_37 : decode cX2_openDoor 37 = .ok (.iastore, 1) := by decide +kernel
theorem dX2_openDoor_38 : decode cX2_openDoor 38 = .ok (.aload_n 0, 1) := by decide +kernel
theorem dX2_openDoor_39 : decode cX2_openDoor 39 = .ok (.dup, 1) := by decide +kernel
theorem dX2_openDoor_40 : decode cX2_openDoor 40 = .ok (.getfield 45, 3) := by decide +kernel
theorem dX2_openDoor_43 : decode cX2_openDoor 43 = .ok (.iconst 1, 1) := by decide +kernel
theorem dX2_openDoor_44 : decode cX2_openDoor 44 = .ok (.iadd, 1) := by decide +kernel
theorem dX2_openDoor_45 : decode cX2_openDoor 45 = .ok (.putfield 45, 3) := by decide +kernel
theorem dX2_openDoor_48 : decode cX2_openDoor 48 = .ok (.iconst 0, 1) := by decide +kernel
theorem dX2_openDoor_49 : decode cX2_openDoor 49 = .ok (.istore_n 3, 1) := by decide +kernel
theorem dX2_openDoor_50 : decode cX2_openDoor 50 = .ok (.iconst 0, 1) := by decide +kernel
theorem dX2_openDoor_51 : decode cX2_openDoor 51 = .ok (.istore 4, 2) := by decide +kernel
theorem dX2_openDoor_53 : decode cX2_openDoor 53 = .ok (.iload 4, 2) := by decide +kernel
theorem dX2_openDoor_55 : decode cX2_openDoor 55 = .ok (.iload_n 2, 1) := by decide +kernel
theorem dX2_openDoor_56 : decode cX2_openDoor 56 = .ok (.if_icmp .ge 42, 3) := by decide +kernel
theorem dX2_openDoor_59 : decode cX2_openDoor 59 = .ok (.aload_n 0, 1) := by decide +kernel
theorem dX2_openDoor_60 : decode cX2_openDoor 60 = .ok (.invokevirtual 106, 3) := by decide +kernel
theorem dX2_openDoor_63 : decode cX2_openDoor 63 = .ok (.istore 5, 2) := by decide +kernel
theorem dX2_openDoor_65 : decode cX2_openDoor 65 = .ok (.aload_n 0, 1) := by decide +kernel
theorem dX2_openDoor_66 : decode cX2_openDoor 66 = .ok (.getfield 30, 3) := by decide +kernel
theorem dX2_openDoor_69 : decode cX2_openDoor 69 = .ok (.iload 5, 2) := by decide +kernel
theorem dX2_openDoor_71 : decode cX2_openDoor 71 = .ok (.invokevirtual 70, 3) := by decide +kernel
theorem dX2_openDoor_74 : decode cX2_openDoor 74 = .ok (.ifCond .eq 18, 3) := by decide +kernel
theorem dX2_openDoor_77 : decode cX2_openDoor 77 = .ok (.aload_n 0, 1) := by decide +kernel
theorem dX2_openDoor_78 : decode cX2_openDoor 78 = .ok (.getfield 9, 3) := by decide +kernel
theorem dX2_openDoor_81 : decode cX2_openDoor 81 = .ok (.iload 5, 2) := by decide +kernel
theorem dX2_openDoor_83 : decode cX2_openDoor 83 = .ok (.iconst 3, 1) := by decide +kernel
theorem dX2_openDoor_84 : decode cX2_openDoor 84 = .ok (.iastore, 1) := by decide +kernel
theorem dX2_openDoor_85 : decode cX2_openDoor 85 = .ok (.iload_n 3, 1) := by decide +kernel
theorem dX2_openDoor_86 : decode cX2_openDoor 86 = .ok (.iconst 1, 1) := by decide +kernel
theorem dX2_openDoor_87 : decode cX2_openDoor 87 = .ok (.iload 5, 2) := by decide +kernel
theorem dX2_openDoor_89 : decode cX2_openDoor 89 = .ok (.ishl, 1) := by decide +kernel
theorem dX2_openDoor_90 : decode cX2_openDoor 90 = .ok (.ior, 1) := by decide +kernel
theorem dX2_openDoor_91 : decode cX2_openDoor 91 = .ok (.istore_n 3, 1) := by decide +kernel
theorem dX2_openDoor_92 : decode cX2_openDoor 92 = .ok (.iinc 4 1, 3) := by decide +kernel
theorem dX2_openDoor_95 : decode cX2_openDoor 95 = .ok (.goto (-42), 3) := by decide +kernel
theorem dX2_openDoor_98 : decode cX2_openDoor 98 = .ok (.iload_n 3, 1) := by decide +kernel
theorem dX2_openDoor_99 : decode cX2_openDoor 99 = .ok (.ireturn, 1) := by decide +kernel
theorem dX2_hottest_0 : decode cX2_hottest 0 = .ok (.bipush (-4), 2) := by decide +kernel
theorem dX2_hottest_2 : decode cX2_hottest 2 = .ok (.istore_n 1, 1) := by decide +kernel
theorem dX2_hottest_3 : decode cX2_hottest 3 = .ok (.iconst (-1), 1) := by decide +kernel
theorem dX2_hottest_4 : decode cX2_hottest 4 = .ok (.istore_n 2, 1) := by decide +kernel
theorem dX2_hottest_5 : decode cX2_hottest 5 = .ok (.iconst 0, 1) := by decide +kernel
theorem dX2_hottest_6 : decode cX2_hottest 6 = .ok (.istore_n 3, 1) := by decide +kernel
theorem dX2_hottest_7 : decode cX2_hottest 7 = .ok (.iload_n 3, 1) := by decide +kernel
theorem dX2_hottest_8 : decode cX2_hottest 8 = .ok (.aload_n 0, 1) := by decide +kernel
theorem dX2_hottest_9 : decode cX2_hottest 9 = .ok (.getfield 30, 3) := by decide +kernel
theorem dX2_hottest_12 : decode cX2_hottest 12 = .ok (.getfield 54, 3) := by decide +kernel
theorem dX2_hottest_15 : decode cX2_hottest 15 = .ok (.if_icmp .ge 44, 3) := by decide +kernel
theorem dX2_hottest_18 : decode cX2_hottest 18 = .ok (.iload_n 3, 1) := by decide +kernel
theorem dX2_hottest_19 : decode cX2_hottest 19 = .ok (.bipush 6, 2) := by decide +kernel
theorem dX2_hottest_21 : decode cX2_hottest 21 = .ok (.if_icmp .ge 38, 3) := by decide +kernel
theorem dX2_hottest_24 : decode cX2_hottest 24 = .ok (.aload_n 0, 1) := by decide +kernel
theorem dX2_hottest_25 : decode cX2_hottest 25 = .ok (.getfield 9, 3) := by decide +kernel
theorem dX2_hottest_28 : decode cX2_hottest 28 = .ok (.iload_n 3, 1) := by decide +kernel
theorem dX2_hottest_29 : decode cX2_hottest 29 = .ok (.iaload, 1) := by decide +kernel
theorem dX2_hottest_30 : decode cX2_hottest 30 = .ok (.iconst 2, 1) := by decide +kernel
theorem dX2_hottest_31 : decode cX2_hottest 31 = .ok (.if_icmp .ne 22, 3) := by decide +kernel
theorem dX2_hottest_34 : decode cX2_hottest 34 = .ok (.aload_n 0, 1) := by decide +kernel
theorem dX2_hottest_35 : decode cX2_hottest 35 = .ok (.getfield 15, 3) := by decide +kernel
theorem dX2_hottest_38 : decode cX2_hottest 38 = .ok (.iload_n 3, 1) := by decide +kernel
theorem dX2_hottest_39 : decode cX2_hottest 39 = .ok (.iaload, 1) := by decide +kernel
theorem dX2_hottest_40 : decode cX2_hottest 40 = .ok (.iload_n 2, 1) := by decide +kernel
theorem dX2_hottest_41 : decode cX2_hottest 41 = .ok (.if_icmp .le 12, 3) := by decide +kernel
theorem dX2_hottest_44 : decode cX2_hottest 44 = .ok (.iload_n 3, 1) := by decide +kernel
theorem dX2_hottest_45 : decode cX2_hottest 45 = .ok (.istore_n 1, 1) := by decide +kernel
theorem dX2_hottest_46 : decode cX2_hottest 46 = .ok (.aload_n 0, 1) := by decide +kernel
theorem dX2_hottest_47 : decode cX2_hottest 47 = .ok (.getfield 15, 3) := by decide +kernel
theorem dX2_hottest_50 : decode cX2_hottest 50 = .ok (.iload_n 3, 1) := by decide +kernel
theorem dX2_hottest_51 : decode cX2_hottest 51 = .ok (.iaload, 1) := by decide +kernel
theorem dX2_hottest_52 : decode cX2_hottest 52 = .ok (.istore_n 2, 1) := by decide +kernel
theorem dX2_hottest_53 : decode cX2_hottest 53 = .ok (.iinc 3 1, 3) := by decide +kernel
theorem dX2_hottest_56 : decode cX2_hottest 56 = .ok (.goto (-49), 3) := by decide +kernel
theorem dX2_hottest_59 : decode cX2_hottest 59 = .ok (.iload_n 1, 1) := by decide +kernel
theorem dX2_hottest_60 : decode cX2_hottest 60 = .ok (.ireturn, 1) := by decide +kernel
theorem dX2_goMinute_0 : decode cX2_goMinute 0 = .ok (.aload_n 0, 1) := by decide +kernel
theorem dX2_goMinute_1 : decode cX2_goMinute 1 = .ok (.invokevirtual 110, 3) := by decide +kernel
theorem dX2_goMinute_4 : decode cX2_goMinute 4 = .ok (.istore_n 1, 1) := by decide +kernel
theorem dX2_goMinute_5 : decode cX2_goMinute 5 = .ok (.aload_n 0, 1) := by decide +kernel
theorem dX2_goMinute_6 : decode cX2_goMinute 6 = .ok (.invokevirtual 113, 3) := by decide +kernel
theorem dX2_goMinute_9 : decode cX2_goMinute 9 = .ok (.aload_n 0, 1) := by decide +kernel
theorem dX2_goMinute_10 : decode cX2_goMinute 10 = .ok (.dup, 1) := by decide +kernel
theorem dX2_goMinute_11 : decode cX2_goMinute 11 = .ok (.getfield 38, 3) := by decide +kernel
theorem dX2_goMinute_14 : decode cX2_goMinute 14 = .ok (.iconst 1, 1) := by decide +kernel
theorem dX2_goMinute_15 : decode cX2_goMinute 15 = .ok (.iadd, 1) := by decide +kernel
theorem dX2_goMinute_16 : decode cX2_goMinute 16 = .ok (.putfield 38, 3) := by decide +kernel
theorem dX2_goMinute_19 : decode cX2_goMinute 19 = .ok (.aload_n 0, 1) := by decide +kernel
theorem dX2_goMinute_20 : decode cX2_goMinute 20 = .ok (.dup, 1) := by decide +kernel
theorem dX2_goMinute_21 : decode cX2_goMinute 21 = .ok (.getfield 45, 3) := by decide +kernel
theorem dX2_goMinute_24 : decode cX2_goMinute 24 = .ok (.iconst 1, 1) := by decide +kernel
theorem dX2_goMinute_25 : decode cX2_goMinute 25 = .ok (.iadd, 1) := by decide +kernel
theorem dX2_goMinute_26 : decode cX2_goMinute 26 = .ok (.putfield 45, 3) := by decide +kernel
theorem dX2_goMinute_29 : decode cX2_goMinute 29 = .ok (.iload_n 1, 1) := by decide +kernel
theorem dX2_goMinute_30 : decode cX2_goMinute 30 = .ok (.ireturn, 1) := by decide +kernel
theorem dX2_heat_0 : decode cX2_heat 0 = .ok (.iconst 0, 1) := by decide +kernel
theorem dX2_heat_1 : decode cX2_heat 1 = .ok (.istore_n 1, 1) := by decide +kernel
theorem dX2_heat_2 : decode cX2_heat 2 = .ok (.iconst 0, 1) := by decide +kernel
theorem dX2_heat_3 : decode cX2_heat 3 = .ok (.istore_n 2, 1) := by decide +kernel
theorem dX2_heat_4 : decode cX2_heat 4 = .ok (.iload_n 2, 1) := by decide +kernel
theorem dX2_heat_5 : decode cX2_heat 5 = .ok (.aload_n 0, 1) := by decide +kernel
theorem dX2_heat_6 : decode cX2_heat 6 = .ok (.getfield 30, 3) := by decide +kernel
theorem dX2_heat_9 : decode cX2_heat 9 = .ok (.getfield 54, 3) := by decide +kernel
theorem dX2_heat_12 : decode cX2_heat 12 = .ok (.if_icmp .ge 103, 3) := by decide +kernel
theorem dX2_heat_15 : decode cX2_heat 15 = .ok (.iload_n 2, 1) := by decide +kernel
theorem dX2_heat_16 : decode cX2_heat 16 = .ok (.bipush 6, 2) := by decide +kernel
theorem dX2_heat_18 : decode cX2_heat 18 = .ok (.if_icmp .ge 97, 3) := by decide +kernel
theorem dX2_heat_21 : decode cX2_heat 21 = .ok (.aload_n 0, 1) := by decide +kernel
theorem dX2_heat_22 : decode cX2_heat 22 = .ok (.getfield 30, 3) := by decide +kernel
theorem dX2_heat_25 : decode cX2_heat 25 = .ok (.getfield 73, 3) := by decide +kernel
theorem dX2_heat_28 : decode cX2_heat 28 = .ok (.iload_n 2, 1) := by decide +kernel
theorem dX2_heat_29 : decode cX2_heat 29 = .ok (.iaload, 1) := by decide +kernel
theorem dX2_heat_30 : decode cX2_heat 30 = .ok (.iconst 2, 1) := by decide +kernel
theorem dX2_heat_31 : decode cX2_heat 31 = .ok (.if_icmp .ne 16, 3) := by decide +kernel
theorem dX2_heat_34 : decode cX2_heat 34 = .ok (.aload_n 0, 1) := by decide +kernel
theorem dX2_heat_35 : decode cX2_heat 35 = .ok (.getfield 38, 3) := by decide +kernel
theorem dX2_heat_38 : decode cX2_heat 38 = .ok (.iconst 2, 1) := by decide +kernel
theorem dX2_heat_39 : decode cX2_heat 39 = .ok (.irem, 1) := by decide +kernel
theorem dX2_heat_40 : decode cX2_heat 40 = .ok (.ifCond .eq 7, 3) := by decide +kernel
theorem dX2_heat_43 : decode cX2_heat 43 = .ok (.iconst 1, 1) := by decide +kernel
theorem dX2_heat_44 : decode cX2_heat 44 = .ok (.goto 4, 3) := by decide +kernel
theorem dX2_heat_47 : decode cX2_heat 47 = .ok (.iconst 0, 1) := by decide +kernel
theorem dX2_heat_48 : decode cX2_heat 48 = .ok (.istore_n 3, 1) := by decide +kernel
theorem dX2_heat_49 : decode cX2_heat 49 = .ok (.aload_n 0, 1) := by decide +kernel
theorem dX2_heat_50 : decode cX2_heat 50 = .ok (.getfield 9, 3) := by decide +kernel
theorem dX2_heat_53 : decode cX2_heat 53 = .ok (.iload_n 2, 1) := by decide +kernel
theorem dX2_heat_54 : decode cX2_heat 54 = .ok (.iaload, 1) := by decide +kernel
theorem dX2_heat_55 : decode cX2_heat 55 = .ok (.iconst 2, 1) := by decide +kernel
theorem dX2_heat_56 : decode cX2_heat 56 = .ok (.if_icmp .ne 53, 3) := by decide +kernel
theorem dX2_heat_59 : decode cX2_heat 59 = .ok (.iload_n 3, 1) := by decide +kernel
theorem dX2_heat_60 : decode cX2_heat 60 = .ok (.ifCond .ne 49, 3) := by decide +kernel
theorem dX2_heat_63 : decode cX2_heat 63 = .ok (.aload_n 0, 1) := by decide +kernel
theorem dX2_heat_64 : decode cX2_heat 64 = .ok (.getfield 15, 3) := by decide +kernel
theorem dX2_heat_67 : decode cX2_heat 67 = .ok (.iload_n 2, 1) := by decide +kernel
theorem dX2_heat_68 : decode cX2_heat 68 = .ok (.dup2, 1) := by decide +kernel
theorem dX2_heat_69 : decode cX2_heat 69 = .ok (.iaload, 1) := by decide +kernel
theorem dX2_heat_70 : decode cX2_heat 70 = .ok (.iconst 1, 1) := by decide +kernel
theorem dX2_heat_71 : decode cX2_heat 71 = .ok (.iadd, 1) := by decide +kernel
theorem dX2_heat_72 : decode cX2_heat 72 = .ok (.iastore, 1) := by decide +kernel
theorem dX2_heat_73 : decode cX2_heat 73 = .ok (.aload_n 0, 1) := by decide +kernel
theorem dX2_heat_74 : decode cX2_heat 74 = .ok (.getfield 15, 3) := by decide +kernel
theorem dX2_heat_77 : decode cX2_heat 77 = .ok (.iload_n 2, 1) := by decide +kernel
theorem dX2_heat_78 : decode cX2_heat 78 = .ok (.iaload, 1) := by decide +kernel
theorem dX2_heat_79 : decode cX2_heat 79 = .ok (.aload_n 0, 1) := by decide +kernel
theorem dX2_heat_80 : decode cX2_heat 80 = .ok (.getfield 30, 3) := by decide +kernel
theorem dX2_heat_83 : decode cX2_heat 83 = .ok (.getfield 116, 3) := by decide +kernel
theorem dX2_heat_86 : decode cX2_heat 86 = .ok (.if_icmp .le 23, 3) := by decide +kernel
theorem dX2_heat_89 : decode cX2_heat 89 = .ok (.aload_n 0, 1) := by decide +kernel
theorem dX2_heat_90 : decode cX2_heat 90 = .ok (.getfield 9, 3) := by decide +kernel
theorem dX2_heat_93 : decode cX2_heat 93 = .ok (.iload_n 2, 1) := by decide +kernel
theorem dX2_heat_94 : decode cX2_heat 94 = .ok (.iconst 0, 1) := by decide +kernel
theorem dX2_heat_95 : decode cX2_heat 95 = .ok (.iastore, 1) := by decide +kernel
theorem dX2_heat_96 : decode cX2_heat 96 = .ok (.aload_n 0, 1) := by decide +kernel
theorem dX2_heat_97 : decode cX2_heat 97 = .ok (.getfield 18, 3) := by decide +kernel
theorem dX2_heat_100 : decode cX2_heat 100 = .ok (.iload_n 2, 1) := by decide +kernel
theorem dX2_heat_101 : decode cX2_heat 101 = .ok (.dup2, 1) := by decide +kernel
theorem dX2_heat_102 : decode cX2_heat 102 = .ok (.iaload, 1) := by decide +kernel
theorem dX2_heat_103 : decode cX2_heat 103 = .ok (.iconst 1, 1) := by decide +kernel
theorem dX2_heat_104 : decode cX2_heat 104 = .ok (.iadd, 1) := by decide +kernel
theorem dX2_heat_105 : decode cX2_heat 105 = .ok (.iastore, 1) := by decide +kernel
theorem dX2_heat_106 : decode cX2_heat 106 = .ok (.iinc 1 1, 3) := by decide +kernel
theorem dX2_heat_109 : decode cX2_heat 109 = .ok (.iinc 2 1, 3) := by decide +kernel
theorem dX2_heat_112 : decode cX2_heat 112 = .ok (.goto (-108), 3) := by decide +kernel
theorem dX2_heat_115 : decode cX2_heat 115 = .ok (.iload_n 1, 1) := by decide +kernel
theorem dX2_heat_116 : decode cX2_heat 116 = .ok (.ireturn, 1) := by decide +kernel
theorem dX2_work_0 : decode cX2_work 0 = .ok (.iconst 0, 1) := by decide +kernel
theorem dX2_work_1 : decode cX2_work 1 = .ok (.istore_n 1, 1) := by decide +kernel
theorem dX2_work_2 : decode cX2_work 2 = .ok (.iload_n 1, 1) := by decide +kernel
theorem dX2_work_3 : decode cX2_work 3 = .ok (.aload_n 0, 1) := by decide +kernel
theorem dX2_work_4 : decode cX2_work 4 = .ok (.getfield 34, 3) := by decide +kernel
theorem dX2_work_7 : decode cX2_work 7 = .ok (.if_icmp .ge 58, 3) := by decide +kernel
theorem dX2_work_10 : decode cX2_work 10 = .ok (.iload_n 1, 1) := by decide +kernel
theorem dX2_work_11 : decode cX2_work 11 = .ok (.iconst 3, 1) := by decide +kernel
theorem dX2_work_12 : decode cX2_work 12 = .ok (.if_icmp .ge 53, 3) := by decide +kernel
theorem dX2_work_15 : decode cX2_work 15 = .ok (.aload_n 0, 1) := by decide +kernel
theorem dX2_work_16 : decode cX2_work 16 = .ok (.getfield 21, 3) := by decide +kernel
theorem dX2_work_19 : decode cX2_work 19 = .ok (.iload_n 1, 1) := by decide +kernel
theorem dX2_work_20 : decode cX2_work 20 = .ok (.iaload, 1) := by decide +kernel
theorem dX2_work_21 : decode cX2_work 21 = .ok (.iconst 1, 1) := by decide +kernel
theorem dX2_work_22 : decode cX2_work 22 = .ok (.if_icmp .eq 13, 3) := by decide +kernel
theorem dX2_work_25 : decode cX2_work 25 = .ok (.aload_n 0, 1) := by decide +kernel
theorem dX2_work_26 : decode cX2_work 26 = .ok (.getfield 21, 3) := by decide +kernel
theorem dX2_work_29 : decode cX2_work 29 = .ok (.iload_n 1, 1) := by decide +kernel
theorem dX2_work_30 : decode cX2_work 30 = .ok (.iaload, 1) := by decide +kernel
theorem dX2_work_31 : decode cX2_work 31 = .ok (.iconst 2, 1) := by decide +kernel
theorem dX2_work_32 : decode cX2_work 32 = .ok (.if_icmp .ne 27, 3) := by decide +kernel
theorem dX2_work_35 : decode cX2_work 35 = .ok (.aload_n 0, 1) := by decide +kernel
theorem dX2_work_36 : decode cX2_work 36 = .ok (.getfield 24, 3) := by decide +kernel
theorem dX2_work_39 : decode cX2_work 39 = .ok (.iload_n 1, 1) := by decide +kernel
theorem dX2_work_40 : decode cX2_work 40 = .ok (.dup2, 1) := by decide +kernel
theorem dX2_work_41 : decode cX2_work 41 = .ok (.iaload, 1) := by decide +kernel
theorem dX2_work_42 : decode cX2_work 42 = .ok (.iconst 1, 1) := by decide +kernel
theorem dX2_work_43 : decode cX2_work 43 = .ok (.isub, 1) := by decide +kernel
theorem dX2_work_44 : decode cX2_work 44 = .ok (.iastore, 1) := by decide +kernel
theorem dX2_work_45 : decode cX2_work 45 = .ok (.aload_n 0, 1) := by decide +kernel
theorem dX2_work_46 : decode cX2_work 46 = .ok (.getfield 24, 3) := by decide +kernel
theorem dX2_work_49 : decode cX2_work 49 = .ok (.iload_n 1, 1) := by decide +kernel
theorem dX2_work_50 : decode cX2_work 50 = .ok (.iaload, 1) := by decide +kernel
theorem dX2_work_51 : decode cX2_work 51 = .ok (.ifCond .gt 8, 3) := by decide +kernel
theorem dX2_work_54 : decode cX2_work 54 = .ok (.aload_n 0, 1) := by decide +kernel
theorem dX2_work_55 : decode cX2_work 55 = .ok (.iload_n 1, 1) := by decide +kernel
theorem dX2_work_56 : decode cX2_work 56 = .ok (.invokevirtual 119, 3) := by decide +kernel
theorem dX2_work_59 : decode cX2_work 59 = .ok (.iinc 1 1, 3) := by decide +kernel
theorem dX2_work_62 : decode cX2_work 62 = .ok (.goto (-60), 3) := by decide +kernel
theorem dX2_work_65 : decode cX2_work 65 = .ok (.return_, 1) := by decide +kernel
theorem dX2_finish_0 : decode cX2_finish 0 = .ok (.aload_n 0, 1) := by decide +kernel
theorem dX2_finish_1 : decode cX2_finish 1 = .ok (.iload_n 1, 1) := by decide +kernel
theorem dX2_finish_2 : decode cX2_finish 2 = .ok (.invokevirtual 123, 3) := by decide +kernel
theorem dX2_finish_5 : decode cX2_finish 5 = .ok (.ifCond .ne 4, 3) := by decide +kernel
theorem dX2_finish_8 : decode cX2_finish 8 = .ok (.return_, 1) := by decide +kernel
theorem dX2_finish_9 : decode cX2_finish 9 = .ok (.aload_n 0, 1) := by decide +kernel
theorem dX2_finish_10 : decode cX2_finish 10 = .ok (.getfield 21, 3) := by decide +kernel
theorem dX2_finish_13 : decode cX2_finish 13 = .ok (.iload_n 1, 1) := by decide +kernel
theorem dX2_finish_14 : decode cX2_finish 14 = .ok (.iaload, 1) := by decide +kernel
theorem dX2_finish_15 : decode cX2_finish 15 = .ok (.iconst 2, 1) := by decide +kernel
theorem dX2_finish_16 : decode cX2_finish 16 = .ok (.if_icmp .ne 11, 3) := by decide +kernel
theorem dX2_finish_19 : decode cX2_finish 19 = .ok (.aload_n 0, 1) := by decide +kernel
theorem dX2_finish_20 : decode cX2_finish 20 = .ok (.iconst 1, 1) := by decide +kernel
theorem dX2_finish_21 : decode cX2_finish 21 = .ok (.putfield 41, 3) := by decide +kernel
theorem dX2_finish_24 : decode cX2_finish 24 = .ok (.goto 43, 3) := by decide +kernel
theorem dX2_finish_27 : decode cX2_finish 27 = .ok (.aload_n 0, 1) := by decide +kernel
theorem dX2_finish_28 : decode cX2_finish 28 = .ok (.getfield 30, 3) := by decide +kernel
theorem dX2_finish_31 : decode cX2_finish 31 = .ok (.aload_n 0, 1) := by decide +kernel
theorem dX2_finish_32 : decode cX2_finish 32 = .ok (.getfield 27, 3) := by decide +kernel
theorem dX2_finish_35 : decode cX2_finish 35 = .ok (.iload_n 1, 1) := by decide +kernel
theorem dX2_finish_36 : decode cX2_finish 36 = .ok (.iaload, 1) := by decide +kernel
theorem dX2_finish_37 : decode cX2_finish 37 = .ok (.invokevirtual 70, 3) := by decide +kernel
theorem dX2_finish_40 : decode cX2_finish 40 = .ok (.ifCond .eq 27, 3) := by decide +kernel
theorem dX2_finish_43 : decode cX2_finish 43 = .ok (.aload_n 0, 1) := by decide +kernel
theorem dX2_finish_44 : decode cX2_finish 44 = .ok (.getfield 9, 3) := by decide +kernel
theorem dX2_finish_47 : decode cX2_finish 47 = .ok (.aload_n 0, 1) := by decide +kernel
theorem dX2_finish_48 : decode cX2_finish 48 = .ok (.getfield 27, 3) := by decide +kernel
theorem dX2_finish_51 : decode cX2_finish 51 = .ok (.iload_n 1, 1) := by decide +kernel
theorem dX2_finish_52 : decode cX2_finish 52 = .ok (.iaload, 1) := by decide +kernel
theorem dX2_finish_53 : decode cX2_finish 53 = .ok (.iconst 2, 1) := by decide +kernel
theorem dX2_finish_54 : decode cX2_finish 54 = .ok (.iastore, 1) := by decide +kernel
theorem dX2_finish_55 : decode cX2_finish 55 = .ok (.aload_n 0, 1) := by decide +kernel
theorem dX2_finish_56 : decode cX2_finish 56 = .ok (.getfield 15, 3) := by decide +kernel
theorem dX2_finish_59 : decode cX2_finish 59 = .ok (.aload_n 0, 1) := by decide +kernel
theorem dX2_finish_60 : decode cX2_finish 60 = .ok (.getfield 27, 3) := by decide +kernel
theorem dX2_finish_63 : decode cX2_finish 63 = .ok (.iload_n 1, 1) := by decide +kernel
theorem dX2_finish_64 : decode cX2_finish 64 = .ok (.iaload, 1) := by decide +kernel
theorem dX2_finish_65 : decode cX2_finish 65 = .ok (.iconst 0, 1) := by decide +kernel
theorem dX2_finish_66 : decode cX2_finish 66 = .ok (.iastore, 1) := by decide +kernel
theorem dX2_finish_67 : decode cX2_finish 67 = .ok (.aload_n 0, 1) := by decide +kernel
theorem dX2_finish_68 : decode cX2_finish 68 = .ok (.getfield 21, 3) := by decide +kernel
theorem dX2_finish_71 : decode cX2_finish 71 = .ok (.iload_n 1, 1) := by decide +kernel
theorem dX2_finish_72 : decode cX2_finish 72 = .ok (.iconst 0, 1) := by decide +kernel
theorem dX2_finish_73 : decode cX2_finish 73 = .ok (.iastore, 1) := by decide +kernel
theorem dX2_finish_74 : decode cX2_finish 74 = .ok (.aload_n 0, 1) := by decide +kernel
theorem dX2_finish_75 : decode cX2_finish 75 = .ok (.getfield 27, 3) := by decide +kernel
theorem dX2_finish_78 : decode cX2_finish 78 = .ok (.iload_n 1, 1) := by decide +kernel
theorem dX2_finish_79 : decode cX2_finish 79 = .ok (.bipush (-4), 2) := by decide +kernel
theorem dX2_finish_81 : decode cX2_finish 81 = .ok (.iastore, 1) := by decide +kernel
theorem dX2_finish_82 : decode cX2_finish 82 = .ok (.return_, 1) := by decide +kernel
theorem dX3_init_0 : decode cX3_init 0 = .ok (.aload_n 0, 1) := by decide +kernel
theorem dX3_init_1 : decode cX3_init 1 = .ok (.invokespecial 1, 3) := by decide +kernel
theorem dX3_init_4 : decode cX3_init 4 = .ok (.aload_n 0, 1) := by decide +kernel
theorem dX3_init_5 : decode cX3_init 5 = .ok (.iconst 1, 1) := by decide +kernel
theorem dX3_init_6 : decode cX3_init 6 = .ok (.iload_n 1, 1) := by decide +kernel
theorem dX3_init_7 : decode cX3_init 7 = .ok (.invokestatic 7, 3) := by decide +kernel
theorem dX3_init_10 : decode cX3_init 10 = .ok (.anewarray 13, 3) := by decide +kernel
theorem dX3_init_13 : decode cX3_init 13 = .ok (.putfield 15, 3) := by decide +kernel
theorem dX3_init_16 : decode cX3_init 16 = .ok (.iconst 0, 1) := by decide +kernel
theorem dX3_init_17 : decode cX3_init 17 = .ok (.istore_n 3, 1) := by decide +kernel
theorem dX3_init_18 : decode cX3_init 18 = .ok (.iload_n 3, 1) := by decide +kernel
theorem dX3_init_19 : decode cX3_init 19 = .ok (.aload_n 0, 1) := by decide +kernel
theorem dX3_init_20 : decode cX3_init 20 = .ok (.getfield 15, 3) := by decide +kernel
theorem dX3_init_23 : decode cX3_init 23 = .ok (.arraylength, 1) := by decide +kernel
theorem dX3_init_24 : decode cX3_init 24 = .ok (.if_icmp .ge 23, 3) := by decide +kernel
theorem dX3_init_27 : decode cX3_init 27 = .ok (.aload_n 0, 1) := by decide +kernel
theorem dX3_init_28 : decode cX3_init 28 = .ok (.getfield 15, 3) := by decide +kernel
theorem dX3_init_31 : decode cX3_init 31 = .ok (.iload_n 3, 1) := by decide +kernel
theorem dX3_init_32 : decode cX3_init 32 = .ok (.new 13, 3) := by decide +kernel
theorem dX3_init_35 : decode cX3_init 35 = .ok (.dup, 1) := by decide +kernel
theorem dX3_init_36 : decode cX3_init 36 = .ok (.aload_n 2, 1) := by decide +kernel
theorem dX3_init_37 : decode cX3_init 37 = .ok (.invokespecial 21, 3) := by decide +kernel
theorem dX3_init_40 : decode cX3_init 40 = .ok (.aastore, 1) := by decide +kernel
theorem dX3_init_41 : decode cX3_init 41 = .ok (.iinc 3 1, 3) := by decide +kernel
theorem dX3_init_44 : decode cX3_init 44 = .ok (.goto (-26), 3) := by decide +kernel
theorem dX3_init_47 : decode cX3_init 47 = .ok (.return_, 1) := by decide +kernel
theorem dX3_clear_0 : decode cX3_clear 0 = .ok (.aload_n 0, 1) := by decide +kernel
theorem dX3_clear_1 : decode cX3_clear 1 = .ok (.iconst 0, 1) := by decide +kernel
theorem dX3_clear_2 : decode cX3_clear 2 = .ok (.putfield 24, 3) := by decide +kernel
theorem dX3_clear_5 : decode cX3_clear 5 = .ok (.return_, 1) := by decide +kernel
theorem dX3_push_0 : decode cX3_push 0 = .ok (.aload_n 0, 1) := by decide +kernel
theorem dX3_push_1 : decode cX3_push 1 = .ok (.aload_n 0, 1) := by decide +kernel
theorem dX3_push_2 : decode cX3_push 2 = .ok (.getfield 28, 3) := by decide +kernel
theorem dX3_push_5 : decode cX3_push 5 = .ok (.iconst 1, 1) := by decide +kernel
theorem dX3_push_6 : decode cX3_push 6 = .ok (.iadd, 1) := by decide +kernel
theorem dX3_push_7 : decode cX3_push 7 = .ok (.aload_n 0, 1) := by decide +kernel
theorem dX3_push_8 : decode cX3_push 8 = .ok (.getfield 15, 3) := by decide +kernel
theorem dX3_push_11 : decode cX3_push 11 = .ok (.arraylength, 1) := by decide +kernel
theorem dX3_push_12 : decode cX3_push 12 = .ok (.if_icmp .ge 12, 3) := by decide +kernel
theorem dX3_push_15 : decode cX3_push 15 = .ok (.aload_n 0, 1) := by decide +kernel
theorem dX3_push_16 : decode cX3_push 16 = .ok (.getfield 28, 3) := by decide +kernel
theorem dX3_push_19 : decode cX3_push 19 = .ok (.iconst 1, 1) := by decide +kernel
theorem dX3_push_20 : decode cX3_push 20 = .ok (.iadd, 1) := by decide +kernel
theorem dX3_push_21 : decode cX3_push 21 = .ok (.goto 4, 3) := by decide +kernel
theorem dX3_push_24 : decode cX3_push 24 = .ok (.iconst 0, 1) := by decide +kernel
theorem dX3_push_25 : decode cX3_push 25 = .ok (.putfield 28, 3) := by decide +kernel
theorem dX3_push_28 : decode cX3_push 28 = .ok (.aload_n 0, 1) := by decide +kernel
theorem dX3_push_29 : decode cX3_push 29 = .ok (.getfield 15, 3) := by decide +kernel
theorem dX3_push_32 : decode cX3_push 32 = .ok (.aload_n 0, 1) := by decide +kernel
theorem dX3_push_33 : decode cX3_push 33 = .ok (.getfield 28, 3) := by decide +kernel
theorem dX3_push_36 : decode cX3_push 36 = .ok (.aaload, 1) := by decide +kernel
theorem dX3_push_37 : decode cX3_push 37 = .ok (.aload_n 1, 1) := by decide +kernel
theorem dX3_push_38 : decode cX3_push 38 = .ok (.invokevirtual 31, 3) := by decide +kernel
theorem dX3_push_41 : decode cX3_push 41 = .ok (.aload_n 0, 1) := by decide +kernel
theorem dX3_push_42 : decode cX3_push 42 = .ok (.aload_n 0, 1) := by decide +kernel
theorem dX3_push_43 : decode cX3_push 43 = .ok (.getfield 24, 3) := by decide +kernel
theorem dX3_push_46 : decode cX3_push 46 = .ok (.iconst 1, 1) := by decide +kernel
theorem dX3_push_47 : decode cX3_push 47 = .ok (.iadd, 1) := by decide +kernel
theorem dX3_push_48 : decode cX3_push 48 = .ok (.aload_n 0, 1) := by decide +kernel
theorem dX3_push_49 : decode cX3_push 49 = .ok (.getfield 15, 3) := by decide +kernel
theorem dX3_push_52 : decode cX3_push 52 = .ok (.arraylength, 1) := by decide +kernel
theorem dX3_push_53 : decode cX3_push 53 = .ok (.invokestatic 35, 3) := by decide +kernel
theorem dX3_push_56 : decode cX3_push 56 = .ok (.putfield 24, 3) := by decide +kernel
theorem dX3_push_59 : decode cX3_push 59 = .ok (.return_, 1) := by decide +kernel
theorem dX3_popInto_0 : decode cX3_popInto 0 = .ok (.aload_n 0, 1) := by decide +kernel
theorem dX3_popInto_1 : decode cX3_popInto 1 = .ok (.getfield 24, 3) := by decide +kernel
theorem dX3_popInto_4 : decode cX3_popInto 4 = .ok (.ifCond .le 53, 3) := by decide +kernel
theorem dX3_popInto_7 : decode cX3_popInto 7 = .ok (.aload_n 1, 1) := by decide +kernel
theorem dX3_popInto_8 : decode cX3_popInto 8 = .ok (.aload_n 0, 1) := by decide +kernel
theorem dX3_popInto_9 : decode cX3_popInto 9 = .ok (.getfield 15, 3) := by decide +kernel
theorem dX3_popInto_12 : decode cX3_popInto 12 = .ok (.aload_n 0, 1) := by decide +kernel
theorem dX3_popInto_13 : decode cX3_popInto 13 = .ok (.getfield 28, 3) := by decide +kernel
theorem dX3_popInto_16 : decode cX3_popInto 16 = .ok (.aaload, 1) := by decide +kernel
theorem dX3_popInto_17 : decode cX3_popInto 17 = .ok (.invokevirtual 31, 3) := by decide +kernel
theorem dX3_popInto_20 : decode cX3_popInto 20 = .ok (.aload_n 0, 1) := by decide +kernel
theorem dX3_popInto_21 : decode cX3_popInto 21 = .ok (.aload_n 0, 1) := by decide +kernel
theorem dX3_popInto_22 : decode cX3_popInto 22 = .ok (.getfield 28, 3) := by decide +kernel
theorem dX3_popInto_25 : decode cX3_popInto 25 = .ok (.ifCond .le 12, 3) := by decide +kernel
theorem dX3_popInto_28 : decode cX3_popInto 28 = .ok (.aload_n 0, 1) := by decide +kernel
theorem dX3_popInto_29 : decode cX3_popInto 29 = .ok (.getfield 28, 3) := by decide +kernel
theorem dX3_popInto_32 : decode cX3_popInto 32 = .ok (.iconst 1, 1) := by decide +kernel
theorem dX3_popInto_33 : decode cX3_popInto 33 = .ok (.isub, 1) := by decide +kernel
theorem dX3_popInto_34 : decode cX3_popInto 34 = .ok (.goto 10, 3) := by decide +kernel
theorem dX3_popInto_37 : decode cX3_popInto 37 = .ok (.aload_n 0, 1) := by decide +kernel
theorem dX3_popInto_38 : decode cX3_popInto 38 = .ok (.getfield 15, 3) := by decide +kernel
theorem dX3_popInto_41 : decode cX3_popInto 41 = .ok (.arraylength, 1) := by decide +kernel
theorem dX3_popInto_42 : decode cX3_popInto 42 = .ok (.iconst 1, 1) := by decide +kernel
theorem dX3_popInto_43 : decode cX3_popInto 43 = .ok (.isub, 1) := by decide +kernel
theorem dX3_popInto_44 : decode cX3_popInto 44 = .ok (.putfield 28, 3) := by decide +kernel
theorem dX3_popInto_47 : decode cX3_popInto 47 = .ok (.aload_n 0, 1) := by decide +kernel
theorem dX3_popInto_48 : decode cX3_popInto 48 = .ok (.dup, 1) := by decide +kernel
theorem dX3_popInto_49 : decode cX3_popInto 49 = .ok (.getfield 24, 3) := by decide +kernel
theorem dX3_popInto_52 : decode cX3_popInto 52 = .ok (.iconst 1, 1) := by decide +kernel
theorem dX3_popInto_53 : decode cX3_popInto 53 = .ok (.isub, 1) := by decide +kernel
theorem dX3_popInto_54 : decode cX3_popInto 54 = .ok (.putfield 24, 3) := by decide +kernel
theorem dX3_popInto_57 : decode cX3_popInto 57 = .ok (.return_, 1) := by decide +kernel
theorem dX4_init_0 : decode cX4_init 0 = .ok (.aload_n 0, 1) := by decide +kernel
theorem dX4_init_1 : decode cX4_init 1 = .ok (.invokespecial 3, 3) := by decide +kernel
theorem dX4_init_4 : decode cX4_init 4 = .ok (.aload_n 0, 1) := by decide +kernel
theorem dX4_init_5 : decode cX4_init 5 = .ok (.bipush 6, 2) := by decide +kernel
theorem dX4_init_7 : decode cX4_init 7 = .ok (.newarray .int, 2) := by decide +kernel
theorem dX4_init_9 : decode cX4_init 9 = .ok (.putfield 9, 3) := by decide +kernel
theorem dX4_init_12 : decode cX4_init 12 = .ok (.aload_n 0, 1) := by decide +kernel
theorem dX4_init_13 : decode cX4_init 13 = .ok (.bipush 6, 2) := by decide +kernel
theorem dX4_init_15 : decode cX4_init 15 = .ok (.newarray .int, 2) := by decide +kernel
theorem dX4_init_17 : decode cX4_init 17 = .ok (.putfield 15, 3) := by decide +kernel
theorem dX4_init_20 : decode cX4_init 20 = .ok (.return_, 1) := by decide +kernel
theorem dX4_clear_0 : decode cX4_clear 0 = .ok (.aload_n 0, 1) := by decide +kernel
theorem dX4_clear_1 : decode cX4_clear 1 = .ok (.iconst 0, 1) := by decide +kernel
theorem dX4_clear_2 : decode cX4_clear 2 = .ok (.putfield 18, 3) := by decide +kernel
theorem dX4_clear_5 : decode cX4_clear 5 = .ok (.aload_n 0, 1) := by decide +kernel
theorem dX4_clear_6 : decode cX4_clear 6 = .ok (.iconst 2, 1) := by decide +kernel
theorem dX4_clear_7 : decode cX4_clear 7 = .ok (.putfield 22, 3) := by decide +kernel
theorem dX4_clear_10 : decode cX4_clear 10 = .ok (.aload_n 0, 1) := by decide +kernel
theorem dX4_clear_11 : decode cX4_clear 11 = .ok (.bipush 9, 2) := by decide +kernel
theorem dX4_clear_13 : decode cX4_clear 13 = .ok (.putfield 25, 3) := by decide +kernel
theorem dX4_clear_16 : decode cX4_clear 16 = .ok (.aload_n 0, 1) := by decide +kernel
theorem dX4_clear_17 : decode cX4_clear 17 = .ok (.iconst 3, 1) := by decide +kernel
theorem dX4_clear_18 : decode cX4_clear 18 = .ok (.putfield 28, 3) := by decide +kernel
theorem dX4_clear_21 : decode cX4_clear 21 = .ok (.aload_n 0, 1) := by decide +kernel
theorem dX4_clear_22 : decode cX4_clear 22 = .ok (.bipush 60, 2) := by decide +kernel
theorem dX4_clear_24 : decode cX4_clear 24 = .ok (.putfield 31, 3) := by decide +kernel
theorem dX4_clear_27 : decode cX4_clear 27 = .ok (.return_, 1) := by decide +kernel
theorem dX4_copyFrom_0 : decode cX4_copyFrom 0 = .ok (.aload_n 1, 1) := by decide +kernel
theorem dX4_copyFrom_1 : decode cX4_copyFrom 1 = .ok (.getfield 9, 3) := by decide +kernel
theorem dX4_copyFrom_4 : decode cX4_copyFrom 4 = .ok (.iconst 0, 1) := by decide +kernel
theorem dX4_copyFrom_5 : decode cX4_copyFrom 5 = .ok (.aload_n 0, 1) := by decide +kernel
theorem dX4_copyFrom_6 : decode cX4_copyFrom 6 = .ok (.getfield 9, 3) := by decide +kernel
theorem dX4_copyFrom_9 : decode cX4_copyFrom 9 = .ok (.iconst 0, 1) := by decide +kernel
theorem dX4_copyFrom_10 : decode cX4_copyFrom 10 = .ok (.bipush 6, 2) := by decide +kernel
theorem dX4_copyFrom_12 : decode cX4_copyFrom 12 = .ok (.invokestatic 34, 3) := by decide +kernel
theorem dX4_copyFrom_15 : decode cX4_copyFrom 15 = .ok (.aload_n 1, 1) := by decide +kernel
theorem dX4_copyFrom_16 : decode cX4_copyFrom 16 = .ok (.getfield 15, 3) := by decide +kernel
theorem dX4_copyFrom_19 : decode cX4_copyFrom 19 = .ok (.iconst 0, 1) := by decide +kernel
theorem dX4_copyFrom_20 : decode cX4_copyFrom 20 = .ok (.aload_n 0, 1) := by decide +kernel
theorem dX4_copyFrom_21 : decode cX4_copyFrom 21 = .ok (.getfield 15, 3) := by decide +kernel
theorem dX4_copyFrom_24 : decode cX4_copyFrom 24 = .ok (.iconst 0, 1) := by decide +kernel
theorem dX4_copyFrom_25 : decode cX4_copyFrom 25 = .ok (.bipush 6, 2) := by decide +kernel
theorem dX4_copyFrom_27 : decode cX4_copyFrom 27 = .ok (.invokestatic 34, 3) := by decide +kernel
theorem dX4_copyFrom_30 : decode cX4_copyFrom 30 = .ok (.aload_n 0, 1) := by decide +kernel
theorem dX4_copyFrom_31 : decode cX4_copyFrom 31 = .ok (.aload_n 1, 1) := by decide +kernel
theorem dX4_copyFrom_32 : decode cX4_copyFrom 32 = .ok (.getfield 18, 3) := by decide +kernel
theorem dX4_copyFrom_35 : decode cX4_copyFrom 35 = .ok (.putfield 18, 3) := by decide +kernel
theorem dX4_copyFrom_38 : decode cX4_copyFrom 38 = .ok (.aload_n 0, 1) := by decide +kernel
theorem dX4_copyFrom_39 : decode cX4_copyFrom 39 = .ok (.aload_n 1, 1) := by decide +kernel
theorem dX4_copyFrom_40 : decode cX4_copyFrom 40 = .ok (.getfield 22, 3) := by decide +kernel
theorem dX4_copyFrom_43 : decode cX4_copyFrom 43 = .ok (.putfield 22, 3) := by decide +kernel
theorem dX4_copyFrom_46 : decode cX4_copyFrom 46 = .ok (.aload_n 0, 1) := by decide +kernel
theorem dX4_copyFrom_47 : decode cX4_copyFrom 47 = .ok (.aload_n 1, 1) := by decide +kernel
theorem dX4_copyFrom_48 : decode cX4_copyFrom 48 = .ok (.getfield 25, 3) := by decide +kernel
theorem dX4_copyFrom_51 : decode cX4_copyFrom 51 = .ok (.putfield 25, 3) := by decide +kernel
theorem dX4_copyFrom_54 : decode cX4_copyFrom 54 = .ok (.aload_n 0, 1) := by decide +kernel
theorem dX4_copyFrom_55 : decode cX4_copyFrom 55 = .ok (.aload_n 1, 1) := by decide +kernel
theorem dX4_copyFrom_56 : decode cX4_copyFrom 56 = .ok (.getfield 28, 3) := by decide +kernel
theorem dX4_copyFrom_59 : decode cX4_copyFrom 59 = .ok (.putfield 28, 3) := by decide +kernel
theorem dX4_copyFrom_62 : decode cX4_copyFrom 62 = .ok (.aload_n 0, 1) := by decide +kernel
theorem dX4_copyFrom_63 : decode cX4_copyFrom 63 = .ok (.aload_n 1, 1) := by decide +kernel
theorem dX4_copyFrom_64 : decode cX4_copyFrom 64 = .ok (.getfield 31, 3) := by decide +kernel
theorem dX4_copyFrom_67 : decode cX4_copyFrom 67 = .ok (.putfield 31, 3) := by decide +kernel
theorem dX4_copyFrom_70 : decode cX4_copyFrom 70 = .ok (.return_, 1) := by decide +kernel
theorem dX4_hasChild_0 : decode cX4_hasChild 0 = .ok (.iload_n 1, 1) := by decide +kernel
theorem dX4_hasChild_1 : decode cX4_hasChild 1 = .ok (.ifCond .lt 21, 3) := by decide +kernel
theorem dX4_hasChild_4 : decode cX4_hasChild 4 = .ok (.iload_n 1, 1) := by decide +kernel
theorem dX4_hasChild_5 : decode cX4_hasChild 5 = .ok (.aload_n 0, 1) := by decide +kernel
theorem dX4_hasChild_6 : decode cX4_hasChild 6 = .ok (.getfield 18, 3) := by decide +kernel
theorem dX4_hasChild_9 : decode cX4_hasChild 9 = .ok (.if_icmp .ge 13, 3) := by decide +kernel
theorem dX4_hasChild_12 : decode cX4_hasChild 12 = .ok (.iload_n 1, 1) := by decide +kernel
theorem dX4_hasChild_13 : decode cX4_hasChild 13 = .ok (.bipush 6, 2) := by decide +kernel
theorem dX4_hasChild_15 : decode cX4_hasChild 15 = .ok (.if_icmp .ge 7, 3) := by decide +kernel
theorem dX4_hasChild_18 : decode cX4_hasChild 18 = .ok (.iconst 1, 1) := by decide +kernel
theorem dX4_hasChild_19 : decode cX4_hasChild 19 = .ok (.goto 4, 3) := by decide +kernel
theorem dX4_hasChild_22 : decode cX4_hasChild 22 = .ok (.iconst 0, 1) := by decide +kernel
theorem dX4_hasChild_23 : decode cX4_hasChild 23 = .ok (.ireturn, 1) := by decide +kernel
theorem dX4_tell_0 : decode cX4_tell 0 = .ok (.iload_n 1, 1) := by decide +kernel
theorem dX4_tell_1 : decode cX4_tell 1 = .ok (.bipush 99, 2) := by decide +kernel
theorem dX4_tell_3 : decode cX4_tell 3 = .ok (.if_icmp .ne 10, 3) := by decide +kernel
theorem dX4_tell_6 : decode cX4_tell 6 = .ok (.aload_n 0, 1) := by decide +kernel
theorem dX4_tell_7 : decode cX4_tell 7 = .ok (.iload_n 2, 1) := by decide +kernel
theorem dX4_tell_8 : decode cX4_tell 8 = .ok (.iload_n 3, 1) := by decide +kernel
theorem dX4_tell_9 : decode cX4_tell 9 = .ok (.invokevirtual 40, 3) := by decide +kernel
theorem dX4_tell_12 : decode cX4_tell 12 = .ok (.ireturn, 1) := by decide +kernel
theorem dX4_tell_13 : decode cX4_tell 13 = .ok (.iload_n 3, 1) := by decide +kernel
theorem dX4_tell_14 : decode cX4_tell 14 = .ok (.ifCond .ge 16, 3) := by decide +kernel
theorem dX4_tell_17 : decode cX4_tell 17 = .ok (.aload_n 0, 1) := by decide +kernel
theorem dX4_tell_18 : decode cX4_tell 18 = .ok (.iload_n 1, 1) := by decide +kernel
theorem dX4_tell_19 : decode cX4_tell 19 = .ok (.iload_n 2, 1) := by decide +kernel
theorem dX4_tell_20 : decode cX4_tell 20 = .ok (.invokevirtual 44, 3) := by decide +kernel
theorem dX4_tell_23 : decode cX4_tell 23 = .ok (.ifCond .eq 7, 3) := by decide +kernel
theorem dX4_tell_26 : decode cX4_tell 26 = .ok (.iconst 1, 1) := by decide +kernel
theorem dX4_tell_27 : decode cX4_tell 27 = .ok (.goto 4, 3) := by decide +kernel
theorem dX4_tell_30 : decode cX4_tell 30 = .ok (.iconst 0, 1) := by decide +kernel
theorem dX4_tell_31 : decode cX4_tell 31 = .ok (.ireturn, 1) := by decide +kernel
theorem dX4_tellChild_0 : decode cX4_tellChild 0 = .ok (.aload_n 0, 1) := by decide +kernel
theorem dX4_tellChild_1 : decode cX4_tellChild 1 = .ok (.getfield 18, 3) := by decide +kernel
theorem dX4_tellChild_4 : decode cX4_tellChild 4 = .ok (.bipush 6, 2) := by decide +kernel
theorem dX4_tellChild_6 : decode cX4_tellChild 6 = .ok (.if_icmp .ge 12, 3) := by decide +kernel
theorem dX4_tellChild_9 : decode cX4_tellChild 9 = .ok (.iload_n 1, 1) := by decide +kernel
theorem dX4_tellChild_10 : decode cX4_tellChild 10 = .ok (.ifCond .lt 8, 3) := by decide +kernel
theorem dX4_tellChild_13 : decode cX4_tellChild 13 = .ok (.iload_n 1, 1) := by decide +kernel
theorem dX4_tellChild_14 : decode cX4_tellChild 14 = .ok (.iconst 3, 1) := by decide +kernel
theorem dX4_tellChild_15 : decode cX4_tellChild 15 = .ok (.if_icmp .le 5, 3) := by decide +kernel
theorem dX4_tellChild_18 : decode cX4_tellChild 18 = .ok (.iconst 0, 1) := by decide +kernel
theorem dX4_tellChild_19 : decode cX4_tellChild 19 = .ok (.ireturn, 1) := by decide +kernel
theorem dX4_tellChild_20 : decode cX4_tellChild 20 = .ok (.iload_n 2, 1) := by decide +kernel
theorem dX4_tellChild_21 : decode cX4_tellChild 21 = .ok (.iconst 1, 1) := by decide +kernel
theorem dX4_tellChild_22 : decode cX4_tellChild 22 = .ok (.if_icmp .lt 9, 3) := by decide +kernel
theorem dX4_tellChild_25 : decode cX4_tellChild 25 = .ok (.iload_n 2, 1) := by decide +kernel
theorem dX4_tellChild_26 : decode cX4_tellChild 26 = .ok (.bipush 12, 2) := by decide +kernel
theorem dX4_tellChild_28 : decode cX4_tellChild 28 = .ok (.if_icmp .le 5, 3) := by decide +kernel
theorem dX4_tellChild_31 : decode cX4_tellChild 31 = .ok (.iconst 0, 1) := by decide +kernel
theorem dX4_tellChild_32 : decode cX4_tellChild 32 = .ok (.ireturn, 1) := by decide +kernel
theorem dX4_tellChild_33 : decode cX4_tellChild 33 = .ok (.aload_n 0, 1) := by decide +kernel
theorem dX4_tellChild_34 : decode cX4_tellChild 34 = .ok (.getfield 9, 3) := by decide +kernel
theorem dX4_tellChild_37 : decode cX4_tellChild 37 = .ok (.aload_n 0, 1) := by decide +kernel
theorem dX4_tellChild_38 : decode cX4_tellChild 38 = .ok (.getfield 18, 3) := by decide +kernel
theorem dX4_tellChild_41 : decode cX4_tellChild 41 = .ok (.iload_n 1, 1) := by decide +kernel
theorem dX4_tellChild_42 : decode cX4_tellChild 42 = .ok (.iastore, 1) := by decide +kernel
theorem dX4_tellChild_43 : decode cX4_tellChild 43 = .ok (.aload_n 0, 1) := by decide +kernel
theorem dX4_tellChild_44 : decode cX4_tellChild 44 = .ok (.getfield 15, 3) := by decide +kernel
theorem dX4_tellChild_47 : decode cX4_tellChild 47 = .ok (.aload_n 0, 1) := by decide +kernel
theorem dX4_tellChild_48 : decode cX4_tellChild 48 = .ok (.getfield 18, 3) := by decide +kernel
theorem dX4_tellChild_51 : decode cX4_tellChild 51 = .ok (.iload_n 2, 1) := by decide +kernel
theorem dX4_tellChild_52 : decode cX4_tellChild 52 = .ok (.iastore, 1) := by decide +kernel
theorem dX4_tellChild_53 : decode cX4_tellChild 53 = .ok (.aload_n 0, 1) := by decide +kernel
theorem dX4_tellChild_54 : decode cX4_tellChild 54 = .ok (.dup, 1) := by decide +kernel
theorem dX4_tellChild_55 : decode cX4_tellChild 55 = .ok (.getfield 18, 3) := by decide +kernel
theorem dX4_tellChild_58 : decode cX4_tellChild 58 = .ok (.iconst 1, 1) := by decide +kernel
theorem dX4_tellChild_59 : decode cX4_tellChild 59 = .ok (.iadd, 1) := by decide +kernel
theorem dX4_tellChild_60 : decode cX4_tellChild 60 = .ok (.putfield 18, 3) := by decide +kernel
theorem dX4_tellChild_63 : decode cX4_tellChild 63 = .ok (.iconst 1, 1) := by decide +kernel
theorem dX4_tellChild_64 : decode cX4_tellChild 64 = .ok (.ireturn, 1) := by decide +kernel
theorem dX4_tellNumber_0 : decode cX4_tellNumber 0 = .ok (.iload_n 2, 1) := by decide +kernel
theorem dX4_tellNumber_1 : decode cX4_tellNumber 1 = .ok (.iconst 1, 1) := by decide +kernel
theorem dX4_tellNumber_2 : decode cX4_tellNumber 2 = .ok (.if_icmp .lt 11, 3) := by decide +kernel
theorem dX4_tellNumber_5 : decode cX4_tellNumber 5 = .ok (.iload_n 2, 1) := by decide +kernel
theorem dX4_tellNumber_6 : decode cX4_tellNumber 6 = .ok (.iload_n 1, 1) := by decide +kernel
theorem dX4_tellNumber_7 : decode cX4_tellNumber 7 = .ok (.invokestatic 48, 3) := by decide +kernel
theorem dX4_tellNumber_10 : decode cX4_tellNumber 10 = .ok (.if_icmp .le 5, 3) := by decide +kernel
theorem dX4_tellNumber_13 : decode cX4_tellNumber 13 = .ok (.iconst 0, 1) := by decide +kernel
theorem dX4_tellNumber_14 : decode cX4_tellNumber 14 = .ok (.ireturn, 1) := by decide +kernel
theorem dX4_tellNumber_15 : decode cX4_tellNumber 15 = .ok (.iload_n 1, 1) := by decide +kernel
theorem dX4_tellNumber_16 : decode cX4_tellNumber 16 = .ok (.lookupswitch 60 #[(103, 52), (104, 44), (119, 36)], 36) := by decide +kernel
theorem dX4_tellNumber_52 : decode cX4_tellNumber 52 = .ok (.aload_n 0, 1) := by decide +kernel
theorem dX4_tellNumber_53 : decode cX4_tellNumber 53 = .ok (.iload_n 2, 1) := by decide +kernel
theorem dX4_tellNumber_54 : decode cX4_tellNumber 54 = .ok (.putfield 22, 3) := by decide +kernel
theorem dX4_tellNumber_57 : decode cX4_tellNumber 57 = .ok (.goto 24, 3) := by decide +kernel
theorem dX4_tellNumber_60 : decode cX4_tellNumber 60 = .ok (.aload_n 0, 1) := by decide +kernel
theorem dX4_tellNumber_61 : decode cX4_tellNumber 61 = .ok (.iload_n 2, 1) := by decide +kernel
theorem dX4_tellNumber_62 : decode cX4_tellNumber 62 = .ok (.putfield 25, 3) := by decide +kernel
theorem dX4_tellNumber_65 : decode cX4_tellNumber 65 = .ok (.goto 16, 3) := by decide +kernel
theorem dX4_tellNumber_68 : decode cX4_tellNumber 68 = .ok (.aload_n 0, 1) := by decide +kernel
theorem dX4_tellNumber_69 : decode cX4_tellNumber 69 = .ok (.iload_n 2, 1) := by decide +kernel
theorem dX4_tellNumber_70 : decode cX4_tellNumber 70 = .ok (.putfield 28, 3) := by decide +kernel
theorem dX4_tellNumber_73 : decode cX4_tellNumber 73 = .ok (.goto 8, 3) := by decide +kernel
theorem dX4_tellNumber_76 : decode cX4_tellNumber 76 = .ok (.aload_n 0, 1) := by decide +kernel
theorem dX4_tellNumber_77 : decode cX4_tellNumber 77 = .ok (.iload_n 2, 1) := by decide +kernel
theorem dX4_tellNumber_78 : decode cX4_tellNumber 78 = .ok (.putfield 31, 3) := by decide +kernel
theorem dX4_tellNumber_81 : decode cX4_tellNumber 81 = .ok (.iconst 1, 1) := by decide +kernel
theorem dX4_tellNumber_82 : decode cX4_tellNumber 82 = .ok (.ireturn, 1) := by decide +kernel
theorem dX4_mostOf_0 : decode cX4_mostOf 0 = .ok (.iload_n 0, 1) := by decide +kernel
theorem dX4_mostOf_1 : decode cX4_mostOf 1 = .ok (.lookupswitch 53 #[(103, 48), (104, 45), (108, 50), (119, 43)], 43) := by decide +kernel
theorem dX4_mostOf_44 : decode cX4_mostOf 44 = .ok (.iconst 3, 1) := by decide +kernel
theorem dX4_mostOf_45 : decode cX4_mostOf 45 = .ok (.ireturn, 1) := by decide +kernel
theorem dX4_mostOf_46 : decode cX4_mostOf 46 = .ok (.bipush 20, 2) := by decide +kernel
theorem dX4_mostOf_48 : decode cX4_mostOf 48 = .ok (.ireturn, 1) := by decide +kernel
theorem dX4_mostOf_49 : decode cX4_mostOf 49 = .ok (.iconst 4, 1) := by decide +kernel
theorem dX4_mostOf_50 : decode cX4_mostOf 50 = .ok (.ireturn, 1) := by decide +kernel
theorem dX4_mostOf_51 : decode cX4_mostOf 51 = .ok (.bipush 99, 2) := by decide +kernel
theorem dX4_mostOf_53 : decode cX4_mostOf 53 = .ok (.ireturn, 1) := by decide +kernel
theorem dX4_mostOf_54 : decode cX4_mostOf 54 = .ok (.iconst 0, 1) := by decide +kernel
theorem dX4_mostOf_55 : decode cX4_mostOf 55 = .ok (.ireturn, 1) := by decide +kernel
theorem dX4_minutesFor_0 : decode cX4_minutesFor 0 = .ok (.iload_n 1, 1) := by decide +kernel
theorem dX4_minutesFor_1 : decode cX4_minutesFor 1 = .ok (.istore_n 3, 1) := by decide +kernel
theorem dX4_minutesFor_2 : decode cX4_minutesFor 2 = .ok (.iload_n 0, 1) := by decide +kernel
theorem dX4_minutesFor_3 : decode cX4_minutesFor 3 = .ok (.iconst 1, 1) := by decide +kernel
theorem dX4_minutesFor_4 : decode cX4_minutesFor 4 = .ok (.if_icmp .ne 12, 3) := by decide +kernel
theorem dX4_minutesFor_7 : decode cX4_minutesFor 7 = .ok (.iload_n 1, 1) := by decide +kernel
theorem dX4_minutesFor_8 : decode cX4_minutesFor 8 = .ok (.iconst 1, 1) := by decide +kernel
theorem dX4_minutesFor_9 : decode cX4_minutesFor 9 = .ok (.iadd, 1) := by decide +kernel
theorem dX4_minutesFor_10 : decode cX4_minutesFor 10 = .ok (.iconst 2, 1) := by decide +kernel
theorem dX4_minutesFor_11 : decode cX4_minutesFor 11 = .ok (.idiv, 1) := by decide +kernel
theorem dX4_minutesFor_12 : decode cX4_minutesFor 12 = .ok (.istore_n 3, 1) := by decide +kernel
theorem dX4_minutesFor_13 : decode cX4_minutesFor 13 = .ok (.goto 12, 3) := by decide +kernel
theorem dX4_minutesFor_16 : decode cX4_minutesFor 16 = .ok (.iload_n 0, 1) := by decide +kernel
theorem dX4_minutesFor_17 : decode cX4_minutesFor 17 = .ok (.iconst 3, 1) := by decide +kernel
theorem dX4_minutesFor_18 : decode cX4_minutesFor 18 = .ok (.if_icmp .ne 7, 3) := by decide +kernel
theorem dX4_minutesFor_21 : decode cX4_minutesFor 21 = .ok (.iload_n 1, 1) := by decide +kernel
theorem dX4_minutesFor_22 : decode cX4_minutesFor 22 = .ok (.iconst 2, 1) := by decide +kernel
theorem dX4_minutesFor_23 : decode cX4_minutesFor 23 = .ok (.iadd, 1) := by decide +kernel
theorem dX4_minutesFor_24 : decode cX4_minutesFor 24 = .ok (.istore_n 3, 1) := by decide +kernel
theorem dX4_minutesFor_25 : decode cX4_minutesFor 25 = .ok (.iload_n 2, 1) := by decide +kernel
theorem dX4_minutesFor_26 : decode cX4_minutesFor 26 = .ok (.ifCond .eq 14, 3) := by decide +kernel
theorem dX4_minutesFor_29 : decode cX4_minutesFor 29 = .ok (.iload_n 3, 1) := by decide +kernel
theorem dX4_minutesFor_30 : decode cX4_minutesFor 30 = .ok (.iconst 1, 1) := by decide +kernel
theorem dX4_minutesFor_31 : decode cX4_minutesFor 31 = .ok (.if_icmp .le 9, 3) := by decide +kernel
theorem dX4_minutesFor_34 : decode cX4_minutesFor 34 = .ok (.iload_n 3, 1) := by decide +kernel
theorem dX4_minutesFor_35 : decode cX4_minutesFor 35 = .ok (.iconst 1, 1) := by decide +kernel
theorem dX4_minutesFor_36 : decode cX4_minutesFor 36 = .ok (.isub, 1) := by decide +kernel
theorem dX4_minutesFor_37 : decode cX4_minutesFor 37 = .ok (.goto 4, 3) := by decide +kernel
theorem dX4_minutesFor_40 : decode cX4_minutesFor 40 = .ok (.iload_n 3, 1) := by decide +kernel
theorem dX4_minutesFor_41 : decode cX4_minutesFor 41 = .ok (.ireturn, 1) := by decide +kernel
theorem dX5_init_0 : decode cX5_init 0 = .ok (.aload_n 0, 1) := by decide +kernel
theorem dX5_init_1 : decode cX5_init 1 = .ok (.invokespecial 3, 3) := by decide +kernel
theorem dX5_init_4 : decode cX5_init 4 = .ok (.aload_n 0, 1) := by decide +kernel
theorem dX5_init_5 : decode cX5_init 5 = .ok (.bipush 6, 2) := by decide +kernel
theorem dX5_init_7 : decode cX5_init 7 = .ok (.newarray .int, 2) := by decide +kernel
theorem dX5_init_9 : decode cX5_init 9 = .ok (.putfield 9, 3) := by decide +kernel
theorem dX5_init_12 : decode cX5_init 12 = .ok (.aload_n 0, 1) := by decide +kernel
theorem dX5_init_13 : decode cX5_init 13 = .ok (.bipush 6, 2) := by decide +kernel
theorem dX5_init_15 : decode cX5_init 15 = .ok (.newarray .int, 2) := by decide +kernel
theorem dX5_init_17 : decode cX5_init 17 = .ok (.putfield 15, 3) := by decide +kernel
theorem dX5_init_20 : decode cX5_init 20 = .ok (.aload_n 0, 1) := by decide +kernel
theorem dX5_init_21 : decode cX5_init 21 = .ok (.bipush (-4), 2) := by decide +kernel
theorem dX5_init_23 : decode cX5_init 23 = .ok (.putfield 18, 3) := by decide +kernel
theorem dX5_init_26 : decode cX5_init 26 = .ok (.aload_n 0, 1) := by decide +kernel
theorem dX5_init_27 : decode cX5_init 27 = .ok (.aload_n 1, 1) := by decide +kernel
theorem dX5_init_28 : decode cX5_init 28 = .ok (.putfield 22, 3) := by decide +kernel
theorem dX5_init_31 : decode cX5_init 31 = .ok (.aload_n 0, 1) := by decide +kernel
theorem dX5_init_32 : decode cX5_init 32 = .ok (.aload_n 2, 1) := by decide +kernel
theorem dX5_init_33 : decode cX5_init 33 = .ok (.putfield 26, 3) := by decide +kernel
theorem dX5_init_36 : decode cX5_init 36 = .ok (.return_, 1) := by decide +kernel
theorem dX5_tryAllRows_0 : decode cX5_tryAllRows 0 = .ok (.aload_n 1, 1) := by decide +kernel
theorem dX5_tryAllRows_1 : decode cX5_tryAllRows 1 = .ok (.getfield 30, 3) := by decide +kernel
theorem dX5_tryAllRows_4 : decode cX5_tryAllRows 4 = .ok (.aload_n 0, 1) := by decide +kernel
theorem dX5_tryAllRows_5 : decode cX5_tryAllRows 5 = .ok (.getfield 18, 3) := by decide +kernel
theorem dX5_tryAllRows_8 : decode cX5_tryAllRows 8 = .ok (.if_icmp .ne 4, 3) := by decide +kernel
theorem dX5_tryAllRows_11 : decode cX5_tryAllRows 11 = .ok (.return_, 1) := by decide +kernel
theorem dX5_tryAllRows_12 : decode cX5_tryAllRows 12 = .ok (.aload_n 0, 1) := by decide +kernel
theorem dX5_tryAllRows_13 : decode cX5_tryAllRows 13 = .ok (.aload_n 1, 1) := by decide +kernel
theorem dX5_tryAllRows_14 : decode cX5_tryAllRows 14 = .ok (.getfield 30, 3) := by decide +kernel
theorem dX5_tryAllRows_17 : decode cX5_tryAllRows 17 = .ok (.putfield 18, 3) := by decide +kernel
theorem dX5_tryAllRows_20 : decode cX5_tryAllRows 20 = .ok (.aload_n 0, 1) := by decide +kernel
theorem dX5_tryAllRows_21 : decode cX5_tryAllRows 21 = .ok (.bipush (-4), 2) := by decide +kernel
theorem dX5_tryAllRows_23 : decode cX5_tryAllRows 23 = .ok (.putfield 35, 3) := by decide +kernel
theorem dX5_tryAllRows_26 : decode cX5_tryAllRows 26 = .ok (.aload_n 0, 1) := by decide +kernel
theorem dX5_tryAllRows_27 : decode cX5_tryAllRows 27 = .ok (.bipush (-4), 2) := by decide +kernel
theorem dX5_tryAllRows_29 : decode cX5_tryAllRows 29 = .ok (.putfield 38, 3) := by decide +kernel
theorem dX5_tryAllRows_32 : decode cX5_tryAllRows 32 = .ok (.getstatic 41, 3) := by decide +kernel
theorem dX5_tryAllRows_35 : decode cX5_tryAllRows 35 = .ok (.iconst 0, 1) := by decide +kernel
theorem dX5_tryAllRows_36 : decode cX5_tryAllRows 36 = .ok (.aload_n 0, 1) := by decide +kernel
theorem dX5_tryAllRows_37 : decode cX5_tryAllRows 37 = .ok (.getfield 9, 3) := by decide +kernel
theorem dX5_tryAllRows_40 : decode cX5_tryAllRows 40 = .ok (.iconst 0, 1) := by decide +kernel
theorem dX5_tryAllRows_41 : decode cX5_tryAllRows 41 = .ok (.bipush 6, 2) := by decide +kernel
theorem dX5_tryAllRows_43 : decode cX5_tryAllRows 43 = .ok (.invokestatic 44, 3) := by decide +kernel
theorem dX5_tryAllRows_46 : decode cX5_tryAllRows 46 = .ok (.iconst 1, 1) := by decide +kernel
theorem dX5_tryAllRows_47 : decode cX5_tryAllRows 47 = .ok (.istore_n 2, 1) := by decide +kernel
theorem dX5_tryAllRows_48 : decode cX5_tryAllRows 48 = .ok (.iconst 0, 1) := by decide +kernel
theorem dX5_tryAllRows_49 : decode cX5_tryAllRows 49 = .ok (.istore_n 3, 1) := by decide +kernel
theorem dX5_tryAllRows_50 : decode cX5_tryAllRows 50 = .ok (.iload_n 3, 1) := by decide +kernel
theorem dX5_tryAllRows_51 : decode cX5_tryAllRows 51 = .ok (.sipush 720, 3) := by decide +kernel
theorem dX5_tryAllRows_54 : decode cX5_tryAllRows 54 = .ok (.if_icmp .ge 104, 3) := by decide +kernel
theorem dX5_tryAllRows_57 : decode cX5_tryAllRows 57 = .ok (.iload_n 2, 1) := by decide +kernel
theorem dX5_tryAllRows_58 : decode cX5_tryAllRows 58 = .ok (.ifCond .eq 100, 3) := by decide +kernel
theorem dX5_tryAllRows_61 : decode cX5_tryAllRows 61 = .ok (.aload_n 0, 1) := by decide +kernel
theorem dX5_tryAllRows_62 : decode cX5_tryAllRows 62 = .ok (.getfield 26, 3) := by decide +kernel
theorem dX5_tryAllRows_65 : decode cX5_tryAllRows 65 = .ok (.aload_n 1, 1) := by decide +kernel
theorem dX5_tryAllRows_66 : decode cX5_tryAllRows 66 = .ok (.invokevirtual 50, 3) := by decide +kernel
theorem dX5_tryAllRows_69 : decode cX5_tryAllRows 69 = .ok (.aload_n 0, 1) := by decide +kernel
theorem dX5_tryAllRows_70 : decode cX5_tryAllRows 70 = .ok (.getfield 26, 3) := by decide +kernel
theorem dX5_tryAllRows_73 : decode cX5_tryAllRows 73 = .ok (.aload_n 0, 1) := by decide +kernel
theorem dX5_tryAllRows_74 : decode cX5_tryAllRows 74 = .ok (.getfield 9, 3) := by decide +kernel
theorem dX5_tryAllRows_77 : decode cX5_tryAllRows 77 = .ok (.aload_n 0, 1) := by decide +kernel
theorem dX5_tryAllRows_78 : decode cX5_tryAllRows 78 = .ok (.getfield 35, 3) := by decide +kernel
theorem dX5_tryAllRows_81 : decode cX5_tryAllRows 81 = .ok (.bipush (-4), 2) := by decide +kernel
theorem dX5_tryAllRows_83 : decode cX5_tryAllRows 83 = .ok (.if_icmp .ne 13, 3) := by decide +kernel
theorem dX5_tryAllRows_86 : decode cX5_tryAllRows 86 = .ok (.aload_n 0, 1) := by decide +kernel
theorem dX5_tryAllRows_87 : decode cX5_tryAllRows 87 = .ok (.getfield 26, 3) := by decide +kernel
theorem dX5_tryAllRows_90 : decode cX5_tryAllRows 90 = .ok (.invokevirtual 56, 3) := by decide +kernel
theorem dX5_tryAllRows_93 : decode cX5_tryAllRows 93 = .ok (.goto 7, 3) := by decide +kernel
theorem dX5_tryAllRows_96 : decode cX5_tryAllRows 96 = .ok (.aload_n 0, 1) := by decide +kernel
theorem dX5_tryAllRows_97 : decode cX5_tryAllRows 97 = .ok (.getfield 35, 3) := by decide +kernel
theorem dX5_tryAllRows_100 : decode cX5_tryAllRows 100 = .ok (.invokevirtual 60, 3) := by decide +kernel
theorem dX5_tryAllRows_103 : decode cX5_tryAllRows 103 = .ok (.aload_n 0, 1) := by decide +kernel
theorem dX5_tryAllRows_104 : decode cX5_tryAllRows 104 = .ok (.invokevirtual 64, 3) := by decide +kernel
theorem dX5_tryAllRows_107 : decode cX5_tryAllRows 107 = .ok (.ifCond .eq 40, 3) := by decide +kernel
theorem dX5_tryAllRows_110 : decode cX5_tryAllRows 110 = .ok (.aload_n 0, 1) := by decide +kernel
theorem dX5_tryAllRows_111 : decode cX5_tryAllRows 111 = .ok (.aload_n 0, 1) := by decide +kernel
theorem dX5_tryAllRows_112 : decode cX5_tryAllRows 112 = .ok (.getfield 26, 3) := by decide +kernel
theorem dX5_tryAllRows_115 : decode cX5_tryAllRows 115 = .ok (.getfield 68, 3) := by decide +kernel
theorem dX5_tryAllRows_118 : decode cX5_tryAllRows 118 = .ok (.putfield 35, 3) := by decide +kernel
theorem dX5_tryAllRows_121 : decode cX5_tryAllRows 121 = .ok (.aload_n 0, 1) := by decide +kernel
theorem dX5_tryAllRows_122 : decode cX5_tryAllRows 122 = .ok (.aload_n 0, 1) := by decide +kernel
theorem dX5_tryAllRows_123 : decode cX5_tryAllRows 123 = .ok (.getfield 26, 3) := by decide +kernel
theorem dX5_tryAllRows_126 : decode cX5_tryAllRows 126 = .ok (.getfield 69, 3) := by decide +kernel
theorem dX5_tryAllRows_129 : decode cX5_tryAllRows 129 = .ok (.putfield 38, 3) := by decide +kernel
theorem dX5_tryAllRows_132 : decode cX5_tryAllRows 132 = .ok (.aload_n 0, 1) := by decide +kernel
theorem dX5_tryAllRows_133 : decode cX5_tryAllRows 133 = .ok (.getfield 9, 3) := by decide +kernel
theorem dX5_tryAllRows_136 : decode cX5_tryAllRows 136 = .ok (.iconst 0, 1) := by decide +kernel
theorem dX5_tryAllRows_137 : decode cX5_tryAllRows 137 = .ok (.aload_n 0, 1) := by decide +kernel
theorem dX5_tryAllRows_138 : decode cX5_tryAllRows 138 = .ok (.getfield 15, 3) := by decide +kernel
theorem dX5_tryAllRows_141 : decode cX5_tryAllRows 141 = .ok (.iconst 0, 1) := by decide +kernel
theorem dX5_tryAllRows_142 : decode cX5_tryAllRows 142 = .ok (.bipush 6, 2) := by decide +kernel
theorem dX5_tryAllRows_144 : decode cX5_tryAllRows 144 = .ok (.invokestatic 44, 3) := by decide +kernel
theorem dX5_tryAllRows_147 : decode cX5_tryAllRows 147 = .ok (.aload_n 0, 1) := by decide +kernel
theorem dX5_tryAllRows_148 : decode cX5_tryAllRows 148 = .ok (.invokevirtual 70, 3) := by decide +kernel
theorem dX5_tryAllRows_151 : decode cX5_tryAllRows 151 = .ok (.istore_n 2, 1) := by decide +kernel
theorem dX5_tryAllRows_152 : decode cX5_tryAllRows 152 = .ok (.iinc 3 1, 3) := by decide +kernel
theorem dX5_tryAllRows_155 : decode cX5_tryAllRows 155 = .ok (.goto (-105), 3) := by decide +kernel
theorem dX5_tryAllRows_158 : decode cX5_tryAllRows 158 = .ok (.return_, 1) := by decide +kernel
theorem dX5_isBetter_0 : decode cX5_isBetter 0 = .ok (.aload_n 0, 1) := by decide +kernel
theorem dX5_isBetter_1 : decode cX5_isBetter 1 = .ok (.getfield 26, 3) := by decide +kernel
theorem dX5_isBetter_4 : decode cX5_isBetter 4 = .ok (.getfield 68, 3) := by decide +kernel
theorem dX5_isBetter_7 : decode cX5_isBetter 7 = .ok (.bipush (-4), 2) := by decide +kernel
theorem dX5_isBetter_9 : decode cX5_isBetter 9 = .ok (.if_icmp .eq 12, 3) := by decide +kernel
theorem dX5_isBetter_12 : decode cX5_isBetter 12 = .ok (.aload_n 0, 1) := by decide +kernel
theorem dX5_isBetter_13 : decode cX5_isBetter 13 = .ok (.getfield 35, 3) := by decide +kernel
theorem dX5_isBetter_16 : decode cX5_isBetter 16 = .ok (.bipush (-4), 2) := by decide +kernel
theorem dX5_isBetter_18 : decode cX5_isBetter 18 = .ok (.if_icmp .ne 21, 3) := by decide +kernel
theorem dX5_isBetter_21 : decode cX5_isBetter 21 = .ok (.aload_n 0, 1) := by decide +kernel
theorem dX5_isBetter_22 : decode cX5_isBetter 22 = .ok (.getfield 26, 3) := by decide +kernel
theorem dX5_isBetter_25 : decode cX5_isBetter 25 = .ok (.getfield 68, 3) := by decide +kernel
theorem dX5_isBetter_28 : decode cX5_isBetter 28 = .ok (.bipush (-4), 2) := by decide +kernel
theorem dX5_isBetter_30 : decode cX5_isBetter 30 = .ok (.if_icmp .eq 7, 3) := by decide +kernel
theorem dX5_isBetter_33 : decode cX5_isBetter 33 = .ok (.iconst 1, 1) := by decide +kernel
theorem dX5_isBetter_34 : decode cX5_isBetter 34 = .ok (.goto 4, 3) := by decide +kernel
theorem dX5_isBetter_37 : decode cX5_isBetter 37 = .ok (.iconst 0, 1) := by decide +kernel
theorem dX5_isBetter_38 : decode cX5_isBetter 38 = .ok (.ireturn, 1) := by decide +kernel
theorem dX5_isBetter_39 : decode cX5_isBetter 39 = .ok (.aload_n 0, 1) := by decide +kernel
theorem dX5_isBetter_40 : decode cX5_isBetter 40 = .ok (.getfield 26, 3) := by decide +kernel
theorem dX5_isBetter_43 : decode cX5_isBetter 43 = .ok (.getfield 68, 3) := by decide +kernel
theorem dX5_isBetter_46 : decode cX5_isBetter 46 = .ok (.aload_n 0, 1) := by decide +kernel
theorem dX5_isBetter_47 : decode cX5_isBetter 47 = .ok (.getfield 35, 3) := by decide +kernel
theorem dX5_isBetter_50 : decode cX5_isBetter 50 = .ok (.if_icmp .lt 31, 3) := by decide +kernel
theorem dX5_isBetter_53 : decode cX5_isBetter 53 = .ok (.aload_n 0, 1) := by decide +kernel
theorem dX5_isBetter_54 : decode cX5_isBetter 54 = .ok (.getfield 26, 3) := by decide +kernel
theorem dX5_isBetter_57 : decode cX5_isBetter 57 = .ok (.getfield 68, 3) := by decide +kernel
theorem dX5_isBetter_60 : decode cX5_isBetter 60 = .ok (.aload_n 0, 1) := by decide +kernel
theorem dX5_isBetter_61 : decode cX5_isBetter 61 = .ok (.getfield 35, 3) := by decide +kernel
theorem dX5_isBetter_64 : decode cX5_isBetter 64 = .ok (.if_icmp .ne 21, 3) := by decide +kernel
theorem dX5_isBetter_67 : decode cX5_isBetter 67 = .ok (.aload_n 0, 1) := by decide +kernel
theorem dX5_isBetter_68 : decode cX5_isBetter 68 = .ok (.getfield 26, 3) := by decide +kernel
theorem dX5_isBetter_71 : decode cX5_isBetter 71 = .ok (.getfield 69, 3) := by decide +kernel
theorem dX5_isBetter_74 : decode cX5_isBetter 74 = .ok (.aload_n 0, 1) := by decide +kernel
theorem dX5_isBetter_75 : decode cX5_isBetter 75 = .ok (.getfield 38, 3) := by decide +kernel
theorem dX5_isBetter_78 : decode cX5_isBetter 78 = .ok (.if_icmp .ge 7, 3) := by decide +kernel
theorem dX5_isBetter_81 : decode cX5_isBetter 81 = .ok (.iconst 1, 1) := by decide +kernel
theorem dX5_isBetter_82 : decode cX5_isBetter 82 = .ok (.goto 4, 3) := by decide +kernel
theorem dX5_isBetter_85 : decode cX5_isBetter 85 = .ok (.iconst 0, 1) := by decide +kernel
theorem dX5_isBetter_86 : decode cX5_isBetter 86 = .ok (.ireturn, 1) := by decide +kernel
theorem dX5_nextRow_0 : decode cX5_nextRow 0 = .ok (.aload_n 0, 1) := by decide +kernel
theorem dX5_nextRow_1 : decode cX5_nextRow 1 = .ok (.getfield 22, 3) := by decide +kernel
theorem dX5_nextRow_4 : decode cX5_nextRow 4 = .ok (.getfield 73, 3) := by decide +kernel
theorem dX5_nextRow_7 : decode cX5_nextRow 7 = .ok (.bipush 6, 2) := by decide +kernel
theorem dX5_nextRow_9 : decode cX5_nextRow 9 = .ok (.invokestatic 78, 3) := by decide +kernel
theorem dX5_nextRow_12 : decode cX5_nextRow 12 = .ok (.istore_n 1, 1) := by decide +kernel
theorem dX5_nextRow_13 : decode cX5_nextRow 13 = .ok (.iload_n 1, 1) := by decide +kernel
theorem dX5_nextRow_14 : decode cX5_nextRow 14 = .ok (.iconst 2, 1) := by decide +kernel
theorem dX5_nextRow_15 : decode cX5_nextRow 15 = .ok (.isub, 1) := by decide +kernel
theorem dX5_nextRow_16 : decode cX5_nextRow 16 = .ok (.istore_n 2, 1) := by decide +kernel
theorem dX5_nextRow_17 : decode cX5_nextRow 17 = .ok (.iload_n 2, 1) := by decide +kernel
theorem dX5_nextRow_18 : decode cX5_nextRow 18 = .ok (.ifCond .lt 26, 3) := by decide +kernel
theorem dX5_nextRow_21 : decode cX5_nextRow 21 = .ok (.aload_n 0, 1) := by decide +kernel
theorem dX5_nextRow_22 : decode cX5_nextRow 22 = .ok (.getfield 9, 3) := by decide +kernel
theorem dX5_nextRow_25 : decode cX5_nextRow 25 = .ok (.iload_n 2, 1) := by decide +kernel
theorem dX5_nextRow_26 : decode cX5_nextRow 26 = .ok (.iaload, 1) := by decide +kernel
theorem dX5_nextRow_27 : decode cX5_nextRow 27 = .ok (.aload_n 0, 1) := by decide +kernel
theorem dX5_nextRow_28 : decode cX5_nextRow 28 = .ok (.getfield 9, 3) := by decide +kernel
theorem dX5_nextRow_31 : decode cX5_nextRow 31 = .ok (.iload_n 2, 1) := by decide +kernel
theorem dX5_nextRow_32 : decode cX5_nextRow 32 = .ok (.iconst 1, 1) := by decide +kernel
theorem dX5_nextRow_33 : decode cX5_nextRow 33 = .ok (.iadd, 1) := by decide +kernel
theorem dX5_nextRow_34 : decode cX5_nextRow 34 = .ok (.iaload, 1) := by decide +kernel
theorem dX5_nextRow_35 : decode cX5_nextRow 35 = .ok (.if_icmp .le 9, 3) := by decide +kernel
theorem dX5_nextRow_38 : decode cX5_nextRow 38 = .ok (.iinc 2 (-1), 3) := by decide +kernel
theorem dX5_nextRow_41 : decode cX5_nextRow 41 = .ok (.goto (-24), 3) := by decide +kernel
theorem dX5_nextRow_44 : decode cX5_nextRow 44 = .ok (.iload_n 2, 1) := by decide +kernel
theorem dX5_nextRow_45 : decode cX5_nextRow 45 = .ok (.ifCond .ge 5, 3) := by decide +kernel
theorem dX5_nextRow_48 : decode cX5_nextRow 48 = .ok (.iconst 0, 1) := by decide +kernel
theorem dX5_nextRow_49 : decode cX5_nextRow 49 = .ok (.ireturn, 1) := by decide +kernel
theorem dX5_nextRow_50 : decode cX5_nextRow 50 = .ok (.iload_n 1, 1) := by decide +kernel
theorem dX5_nextRow_51 : decode cX5_nextRow 51 = .ok (.iconst 1, 1) := by decide +kernel
theorem dX5_nextRow_52 : decode cX5_nextRow 52 = .ok (.isub, 1) := by decide +kernel
theorem dX5_nextRow_53 : decode cX5_nextRow 53 = .ok (.istore_n 3, 1) := by decide +kernel
theorem dX5_nextRow_54 : decode cX5_nextRow 54 = .ok (.iload_n 3, 1) := by decide +kernel
theorem dX5_nextRow_55 : decode cX5_nextRow 55 = .ok (.iload_n 2, 1) := by decide +kernel
theorem dX5_nextRow_56 : decode cX5_nextRow 56 = .ok (.if_icmp .le 24, 3) := by decide +kernel
theorem dX5_nextRow_59 : decode cX5_nextRow 59 = .ok (.aload_n 0, 1) := by decide +kernel
theorem dX5_nextRow_60 : decode cX5_nextRow 60 = .ok (.getfield 9, 3) := by decide +kernel
theorem dX5_nextRow_63 : decode cX5_nextRow 63 = .ok (.iload_n 3, 1) := by decide +kernel
theorem dX5_nextRow_64 : decode cX5_nextRow 64 = .ok (.iaload, 1) := by decide +kernel
theorem dX5_nextRow_65 : decode cX5_nextRow 65 = .ok (.aload_n 0, 1) := by decide +kernel
theorem dX5_nextRow_66 : decode cX5_nextRow 66 = .ok (.getfield 9, 3) := by decide +kernel
theorem dX5_nextRow_69 : decode cX5_nextRow 69 = .ok (.iload_n 2, 1) := by decide +kernel
theorem dX5_nextRow_70 : decode cX5_nextRow 70 = .ok (.iaload, 1) := by decide +kernel
theorem dX5_nextRow_71 : decode cX5_nextRow 71 = .ok (.if_icmp .ge 9, 3) := by decide +kernel
theorem dX5_nextRow_74 : decode cX5_nextRow 74 = .ok (.iinc 3 (-1), 3) := by decide +kernel
theorem dX5_nextRow_77 : decode cX5_nextRow 77 = .ok (.goto (-23), 3) := by decide +kernel
theorem dX5_nextRow_80 : decode cX5_nextRow 80 = .ok (.aload_n 0, 1) := by decide +kernel
theorem dX5_nextRow_81 : decode cX5_nextRow 81 = .ok (.iload_n 2, 1) := by decide +kernel
theorem dX5_nextRow_82 : decode cX5_nextRow 82 = .ok (.iload_n 3, 1) := by decide +kernel
theorem dX5_nextRow_83 : decode cX5_nextRow 83 = .ok (.invokevirtual 84, 3) := by decide +kernel
theorem dX5_nextRow_86 : decode cX5_nextRow 86 = .ok (.iload_n 1, 1) := by decide +kernel
theorem dX5_nextRow_87 : decode cX5_nextRow 87 = .ok (.iconst 1, 1) := by decide +kernel
theorem dX5_nextRow_88 : decode cX5_nextRow 88 = .ok (.isub, 1) := by decide +kernel
theorem dX5_nextRow_89 : decode cX5_nextRow 89 = .ok (.istore 4, 2) := by decide +kernel
theorem dX5_nextRow_91 : decode cX5_nextRow 91 = .ok (.iload_n 2, 1) := by decide +kernel
theorem dX5_nextRow_92 : decode cX5_nextRow 92 = .ok (.iconst 1, 1) := by decide +kernel
theorem dX5_nextRow_93 : decode cX5_nextRow 93 = .ok (.iadd, 1) := by decide +kernel
theorem dX5_nextRow_94 : decode cX5_nextRow 94 = .ok (.istore 5, 2) := by decide +kernel
theorem dX5_nextRow_96 : decode cX5_nextRow 96 = .ok (.iload 5, 2) := by decide +kernel
theorem dX5_nextRow_98 : decode cX5_nextRow 98 = .ok (.iload 4, 2) := by decide +kernel
theorem dX5_nextRow_100 : decode cX5_nextRow 100 = .ok (.if_icmp .ge 20, 3) := by decide +kernel
theorem dX5_nextRow_103 : decode cX5_nextRow 103 = .ok (.aload_n 0, 1) := by decide +kernel
theorem dX5_nextRow_104 : decode cX5_nextRow 104 = .ok (.iload 5, 2) := by decide +kernel
theorem dX5_nextRow_106 : decode cX5_nextRow 106 = .ok (.iload 4, 2) := by decide +kernel
theorem dX5_nextRow_108 : decode cX5_nextRow 108 = .ok (.invokevirtual 84, 3) := by decide +kernel
theorem dX5_nextRow_111 : decode cX5_nextRow 111 = .ok (.iinc 4 (-1), 3) := by decide +kernel
theorem dX5_nextRow_114 : decode cX5_nextRow 114 = .ok (.iinc 5 1, 3) := by decide +kernel
theorem dX5_nextRow_117 : decode cX5_nextRow 117 = .ok (.goto (-21), 3) := by decide +kernel
theorem dX5_nextRow_120 : decode cX5_nextRow 120 = .ok (.iconst 1, 1) := by decide +kernel
theorem dX5_nextRow_121 : decode cX5_nextRow 121 = .ok (.ireturn, 1) := by decide +kernel
theorem dX5_swap_0 : decode cX5_swap 0 = .ok (.iload_n 1, 1) := by decide +kernel
theorem dX5_swap_1 : decode cX5_swap 1 = .ok (.iload_n 2, 1) := by decide +kernel
theorem dX5_swap_2 : decode cX5_swap 2 = .ok (.invokestatic 78, 3) := by decide +kernel
theorem dX5_swap_5 : decode cX5_swap 5 = .ok (.ifCond .lt 39, 3) := by decide +kernel
theorem dX5_swap_8 : decode cX5_swap 8 = .ok (.iload_n 1, 1) := by decide +kernel
theorem dX5_swap_9 : decode cX5_swap 9 = .ok (.iload_n 2, 1) := by decide +kernel
theorem dX5_swap_10 : decode cX5_swap 10 = .ok (.invokestatic 88, 3) := by decide +kernel
theorem dX5_swap_13 : decode cX5_swap 13 = .ok (.bipush 6, 2) := by decide +kernel
theorem dX5_swap_15 : decode cX5_swap 15 = .ok (.if_icmp .ge 29, 3) := by decide +kernel
theorem dX5_swap_18 : decode cX5_swap 18 = .ok (.aload_n 0, 1) := by decide +kernel
theorem dX5_swap_19 : decode cX5_swap 19 = .ok (.getfield 9, 3) := by decide +kernel
theorem dX5_swap_22 : decode cX5_swap 22 = .ok (.iload_n 1, 1) := by decide +kernel
theorem dX5_swap_23 : decode cX5_swap 23 = .ok (.iaload, 1) := by decide +kernel
theorem dX5_swap_24 : decode cX5_swap 24 = .ok (.istore_n 3, 1) := by decide +kernel
theorem dX5_swap_25 : decode cX5_swap 25 = .ok (.aload_n 0, 1) := by decide +kernel
theorem dX5_swap_26 : decode cX5_swap 26 = .ok (.getfield 9, 3) := by decide +kernel
theorem dX5_swap_29 : decode cX5_swap 29 = .ok (.iload_n 1, 1) := by decide +kernel
theorem dX5_swap_30 : decode cX5_swap 30 = .ok (.aload_n 0, 1) := by decide +kernel
theorem dX5_swap_31 : decode cX5_swap 31 = .ok (.getfield 9, 3) := by decide +kernel
theorem dX5_swap_34 : decode cX5_swap 34 = .ok (.iload_n 2, 1) := by decide +kernel
theorem dX5_swap_35 : decode cX5_swap 35 = .ok (.iaload, 1) := by decide +kernel
theorem dX5_swap_36 : decode cX5_swap 36 = .ok (.iastore, 1) := by decide +kernel
theorem dX5_swap_37 : decode cX5_swap 37 = .ok (.aload_n 0, 1) := by decide +kernel
theorem dX5_swap_38 : decode cX5_swap 38 = .ok (.getfield 9, 3) := by decide +kernel
theorem dX5_swap_41 : decode cX5_swap 41 = .ok (.iload_n 2, 1) := by decide +kernel
theorem dX5_swap_42 : decode cX5_swap 42 = .ok (.iload_n 3, 1) := by decide +kernel
theorem dX5_swap_43 : decode cX5_swap 43 = .ok (.iastore, 1) := by decide +kernel
theorem dX5_swap_44 : decode cX5_swap 44 = .ok (.return_, 1) := by decide +kernel
theorem dX5_tryEachLast_0 : decode cX5_tryEachLast 0 = .ok (.iconst 0, 1) := by decide +kernel
theorem dX5_tryEachLast_1 : decode cX5_tryEachLast 1 = .ok (.istore_n 2, 1) := by decide +kernel
theorem dX5_tryEachLast_2 : decode cX5_tryEachLast 2 = .ok (.iconst 0, 1) := by decide +kernel
theorem dX5_tryEachLast_3 : decode cX5_tryEachLast 3 = .ok (.istore_n 3, 1) := by decide +kernel
theorem dX5_tryEachLast_4 : decode cX5_tryEachLast 4 = .ok (.iload_n 3, 1) := by decide +kernel
theorem dX5_tryEachLast_5 : decode cX5_tryEachLast 5 = .ok (.aload_n 0, 1) := by decide +kernel
theorem dX5_tryEachLast_6 : decode cX5_tryEachLast 6 = .ok (.getfield 22, 3) := by decide +kernel
theorem dX5_tryEachLast_9 : decode cX5_tryEachLast 9 = .ok (.getfield 73, 3) := by decide +kernel
theorem dX5_tryEachLast_12 : decode cX5_tryEachLast 12 = .ok (.if_icmp .ge 68, 3) := by decide +kernel
theorem dX5_tryEachLast_15 : decode cX5_tryEachLast 15 = .ok (.aload_n 0, 1) := by decide +kernel
theorem dX5_tryEachLast_16 : decode cX5_tryEachLast 16 = .ok (.iload_n 3, 1) := by decide +kernel
theorem dX5_tryEachLast_17 : decode cX5_tryEachLast 17 = .ok (.invokevirtual 91, 3) := by decide +kernel
theorem dX5_tryEachLast_20 : decode cX5_tryEachLast 20 = .ok (.aload_n 0, 1) := by decide +kernel
theorem dX5_tryEachLast_21 : decode cX5_tryEachLast 21 = .ok (.getfield 26, 3) := by decide +kernel
theorem dX5_tryEachLast_24 : decode cX5_tryEachLast 24 = .ok (.aload_n 1, 1) := by decide +kernel
theorem dX5_tryEachLast_25 : decode cX5_tryEachLast 25 = .ok (.invokevirtual 50, 3) := by decide +kernel
theorem dX5_tryEachLast_28 : decode cX5_tryEachLast 28 = .ok (.aload_n 0, 1) := by decide +kernel
theorem dX5_tryEachLast_29 : decode cX5_tryEachLast 29 = .ok (.getfield 26, 3) := by decide +kernel
theorem dX5_tryEachLast_32 : decode cX5_tryEachLast 32 = .ok (.aload_n 0, 1) := by decide +kernel
theorem dX5_tryEachLast_33 : decode cX5_tryEachLast 33 = .ok (.getfield 9, 3) := by decide +kernel
theorem dX5_tryEachLast_36 : decode cX5_tryEachLast 36 = .ok (.aload_n 0, 1) := by decide +kernel
theorem dX5_tryEachLast_37 : decode cX5_tryEachLast 37 = .ok (.getfield 26, 3) := by decide +kernel
theorem dX5_tryEachLast_40 : decode cX5_tryEachLast 40 = .ok (.invokevirtual 56, 3) := by decide +kernel
theorem dX5_tryEachLast_43 : decode cX5_tryEachLast 43 = .ok (.invokevirtual 60, 3) := by decide +kernel
theorem dX5_tryEachLast_46 : decode cX5_tryEachLast 46 = .ok (.aload_n 0, 1) := by decide +kernel
theorem dX5_tryEachLast_47 : decode cX5_tryEachLast 47 = .ok (.getfield 26, 3) := by decide +kernel
theorem dX5_tryEachLast_50 : decode cX5_tryEachLast 50 = .ok (.getfield 68, 3) := by decide +kernel
theorem dX5_tryEachLast_53 : decode cX5_tryEachLast 53 = .ok (.bipush (-4), 2) := by decide +kernel
theorem dX5_tryEachLast_55 : decode cX5_tryEachLast 55 = .ok (.if_icmp .eq 19, 3) := by decide +kernel
theorem dX5_tryEachLast_58 : decode cX5_tryEachLast 58 = .ok (.aload_n 0, 1) := by decide +kernel
theorem dX5_tryEachLast_59 : decode cX5_tryEachLast 59 = .ok (.getfield 26, 3) := by decide +kernel
theorem dX5_tryEachLast_62 : decode cX5_tryEachLast 62 = .ok (.getfield 69, 3) := by decide +kernel
theorem dX5_tryEachLast_65 : decode cX5_tryEachLast 65 = .ok (.ifCond .ne 9, 3) := by decide +kernel
theorem dX5_tryEachLast_68 : decode cX5_tryEachLast 68 = .ok (.iload_n 2, 1) := by decide +kernel
theorem dX5_tryEachLast_69 : decode cX5_tryEachLast 69 = .ok (.iconst 1, 1) := by decide +kernel
theorem dX5_tryEachLast_70 : decode cX5_tryEachLast 70 = .ok (.iload_n 3, 1) := by decide +kernel
theorem dX5_tryEachLast_71 : decode cX5_tryEachLast 71 = .ok (.ishl, 1) := by decide +kernel
theorem dX5_tryEachLast_72 : decode cX5_tryEachLast 72 = .ok (.ior, 1) := by decide +kernel
theorem dX5_tryEachLast_73 : decode cX5_tryEachLast 73 = .ok (.istore_n 2, 1) := by decide +kernel
theorem dX5_tryEachLast_74 : decode cX5_tryEachLast 74 = .ok (.iinc 3 1, 3) := by decide +kernel
theorem dX5_tryEachLast_77 : decode cX5_tryEachLast 77 = .ok (.goto (-73), 3) := by decide +kernel
theorem dX5_tryEachLast_80 : decode cX5_tryEachLast 80 = .ok (.iload_n 2, 1) := by decide +kernel
theorem dX5_tryEachLast_81 : decode cX5_tryEachLast 81 = .ok (.ireturn, 1) := by decide +kernel
theorem dX5_makeRowWithLast_0 : decode cX5_makeRowWithLast 0 = .ok (.iconst 0, 1) := by decide +kernel
theorem dX5_makeRowWithLast_1 : decode cX5_makeRowWithLast 1 = .ok (.istore_n 2, 1) := by decide +kernel
theorem dX5_makeRowWithLast_2 : decode cX5_makeRowWithLast 2 = .ok (.iload_n 2, 1) := by decide +kernel
theorem dX5_makeRowWithLast_3 : decode cX5_makeRowWithLast 3 = .ok (.bipush 6, 2) := by decide +kernel
theorem dX5_makeRowWithLast_5 : decode cX5_makeRowWithLast 5 = .ok (.if_icmp .ge 27, 3) := by decide +kernel
theorem dX5_makeRowWithLast_8 : decode cX5_makeRowWithLast 8 = .ok (.aload_n 0, 1) := by decide +kernel
theorem dX5_makeRowWithLast_9 : decode cX5_makeRowWithLast 9 = .ok (.getfield 9, 3) := by decide +kernel
theorem dX5_makeRowWithLast_12 : decode cX5_makeRowWithLast 12 = .ok (.iload_n 2, 1) := by decide +kernel
theorem dX5_makeRowWithLast_13 : decode cX5_makeRowWithLast 13 = .ok (.iload_n 2, 1) := by decide +kernel
theorem dX5_makeRowWithLast_14 : decode cX5_makeRowWithLast 14 = .ok (.iload_n 1, 1) := by decide +kernel
theorem dX5_makeRowWithLast_15 : decode cX5_makeRowWithLast 15 = .ok (.if_icmp .ge 7, 3) := by decide +kernel
theorem dX5_makeRowWithLast_18 : decode cX5_makeRowWithLast 18 = .ok (.iload_n 2, 1) := by decide +kernel
theorem dX5_makeRowWithLast_19 : decode cX5_makeRowWithLast 19 = .ok (.goto 6, 3) := by decide +kernel
theorem dX5_makeRowWithLast_22 : decode cX5_makeRowWithLast 22 = .ok (.iload_n 2, 1) := by decide +kernel
theorem dX5_makeRowWithLast_23 : decode cX5_makeRowWithLast 23 = .ok (.iconst 1, 1) := by decide +kernel
theorem dX5_makeRowWithLast_24 : decode cX5_makeRowWithLast 24 = .ok (.iadd, 1) := by decide +kernel
theorem dX5_makeRowWithLast_25 : decode cX5_makeRowWithLast 25 = .ok (.iastore, 1) := by decide +kernel
theorem dX5_makeRowWithLast_26 : decode cX5_makeRowWithLast 26 = .ok (.iinc 2 1, 3) := by decide +kernel
theorem dX5_makeRowWithLast_29 : decode cX5_makeRowWithLast 29 = .ok (.goto (-27), 3) := by decide +kernel
theorem dX5_makeRowWithLast_32 : decode cX5_makeRowWithLast 32 = .ok (.aload_n 0, 1) := by decide +kernel
theorem dX5_makeRowWithLast_33 : decode cX5_makeRowWithLast 33 = .ok (.getfield 22, 3) := by decide +kernel
theorem dX5_makeRowWithLast_36 : decode cX5_makeRowWithLast 36 = .ok (.getfield 73, 3) := by decide +kernel
theorem dX5_makeRowWithLast_39 : decode cX5_makeRowWithLast 39 = .ok (.bipush 6, 2) := by decide +kernel
theorem dX5_makeRowWithLast_41 : decode cX5_makeRowWithLast 41 = .ok (.invokestatic 78, 3) := by decide +kernel
theorem dX5_makeRowWithLast_44 : decode cX5_makeRowWithLast 44 = .ok (.istore_n 2, 1) := by decide +kernel
theorem dX5_makeRowWithLast_45 : decode cX5_makeRowWithLast 45 = .ok (.iload_n 2, 1) := by decide +kernel
theorem dX5_makeRowWithLast_46 : decode cX5_makeRowWithLast 46 = .ok (.ifCond .le 12, 3) := by decide +kernel
theorem dX5_makeRowWithLast_49 : decode cX5_makeRowWithLast 49 = .ok (.aload_n 0, 1) := by decide +kernel
theorem dX5_makeRowWithLast_50 : decode cX5_makeRowWithLast 50 = .ok (.getfield 9, 3) := by decide +kernel
theorem dX5_makeRowWithLast_53 : decode cX5_makeRowWithLast 53 = .ok (.iload_n 2, 1) := by decide +kernel
theorem dX5_makeRowWithLast_54 : decode cX5_makeRowWithLast 54 = .ok (.iconst 1, 1) := by decide +kernel
theorem dX5_makeRowWithLast_55 : decode cX5_makeRowWithLast 55 = .ok (.isub, 1) := by decide +kernel
theorem dX5_makeRowWithLast_56 : decode cX5_makeRowWithLast 56 = .ok (.iload_n 1, 1) := by decide +kernel
theorem dX5_makeRowWithLast_57 : decode cX5_makeRowWithLast 57 = .ok (.iastore, 1) := by decide +kernel
theorem dX5_makeRowWithLast_58 : decode cX5_makeRowWithLast 58 = .ok (.return_, 1) := by decide +kernel
theorem dX6_init_0 : decode cX6_init 0 = .ok (.aload_n 0, 1) := by decide +kernel
theorem dX6_init_1 : decode cX6_init 1 = .ok (.invokespecial 1, 3) := by decide +kernel
theorem dX6_init_4 : decode cX6_init 4 = .ok (.aload_n 0, 1) := by decide +kernel
theorem dX6_init_5 : decode cX6_init 5 = .ok (.bipush 8, 2) := by decide +kernel
theorem dX6_init_7 : decode cX6_init 7 = .ok (.newarray .int, 2) := by decide +kernel
theorem dX6_init_9 : decode cX6_init 9 = .ok (.putfield 9, 3) := by decide +kernel
theorem dX6_init_12 : decode cX6_init 12 = .ok (.aload_n 0, 1) := by decide +kernel
theorem dX6_init_13 : decode cX6_init 13 = .ok (.bipush 8, 2) := by decide +kernel
theorem dX6_init_15 : decode cX6_init 15 = .ok (.newarray .int, 2) := by decide +kernel
theorem dX6_init_17 : decode cX6_init 17 = .ok (.putfield 13, 3) := by decide +kernel
theorem dX6_init_20 : decode cX6_init 20 = .ok (.aload_n 0, 1) := by decide +kernel
theorem dX6_init_21 : decode cX6_init 21 = .ok (.bipush 8, 2) := by decide +kernel
theorem dX6_init_23 : decode cX6_init 23 = .ok (.newarray .boolean, 2) := by decide +kernel
theorem dX6_init_25 : decode cX6_init 25 = .ok (.putfield 16, 3) := by decide +kernel
theorem dX6_init_28 : decode cX6_init 28 = .ok (.return_, 1) := by decide +kernel
theorem dX6_add_0 : decode cX6_add 0 = .ok (.aload_n 0, 1) := by decide +kernel
theorem dX6_add_1 : decode cX6_add 1 = .ok (.getfield 20, 3) := by decide +kernel
theorem dX6_add_4 : decode cX6_add 4 = .ok (.ifCond .lt 12, 3) := by decide +kernel
theorem dX6_add_7 : decode cX6_add 7 = .ok (.aload_n 0, 1) := by decide +kernel
theorem dX6_add_8 : decode cX6_add 8 = .ok (.getfield 20, 3) := by decide +kernel
theorem dX6_add_11 : decode cX6_add 11 = .ok (.bipush 8, 2) := by decide +kernel
theorem dX6_add_13 : decode cX6_add 13 = .ok (.if_icmp .lt 5, 3) := by decide +kernel
theorem dX6_add_16 : decode cX6_add 16 = .ok (.iconst 0, 1) := by decide +kernel
theorem dX6_add_17 : decode cX6_add 17 = .ok (.ireturn, 1) := by decide +kernel
theorem dX6_add_18 : decode cX6_add 18 = .ok (.aload_n 0, 1) := by decide +kernel
theorem dX6_add_19 : decode cX6_add 19 = .ok (.getfield 9, 3) := by decide +kernel
theorem dX6_add_22 : decode cX6_add 22 = .ok (.aload_n 0, 1) := by decide +kernel
theorem dX6_add_23 : decode cX6_add 23 = .ok (.getfield 20, 3) := by decide +kernel
theorem dX6_add_26 : decode cX6_add 26 = .ok (.iload_n 1, 1) := by decide +kernel
theorem dX6_add_27 : decode cX6_add 27 = .ok (.iastore, 1) := by decide +kernel
theorem dX6_add_28 : decode cX6_add 28 = .ok (.aload_n 0, 1) := by decide +kernel
theorem dX6_add_29 : decode cX6_add 29 = .ok (.getfield 13, 3) := by decide +kernel
theorem dX6_add_32 : decode cX6_add 32 = .ok (.aload_n 0, 1) := by decide +kernel
theorem dX6_add_33 : decode cX6_add 33 = .ok (.getfield 20, 3) := by decide +kernel
theorem dX6_add_36 : decode cX6_add 36 = .ok (.iload_n 2, 1) := by decide +kernel
theorem dX6_add_37 : decode cX6_add 37 = .ok (.iastore, 1) := by decide +kernel
theorem dX6_add_38 : decode cX6_add 38 = .ok (.aload_n 0, 1) := by decide +kernel
theorem dX6_add_39 : decode cX6_add 39 = .ok (.getfield 16, 3) := by decide +kernel
theorem dX6_add_42 : decode cX6_add 42 = .ok (.aload_n 0, 1) := by decide +kernel
theorem dX6_add_43 : decode cX6_add 43 = .ok (.getfield 20, 3) := by decide +kernel
theorem dX6_add_46 : decode cX6_add 46 = .ok (.iload_n 3, 1) := by decide +kernel
theorem dX6_add_47 : decode cX6_add 47 = .ok (.bastore, 1) := by decide +kernel
theorem dX6_add_48 : decode cX6_add 48 = .ok (.aload_n 0, 1) := by decide +kernel
theorem dX6_add_49 : decode cX6_add 49 = .ok (.dup, 1) := by decide +kernel
theorem dX6_add_50 : decode cX6_add 50 = .ok (.getfield 20, 3) := by decide +kernel
theorem dX6_add_53 : decode cX6_add 53 = .ok (.iconst 1, 1) := by decide +kernel
theorem dX6_add_54 : decode cX6_add 54 = .ok (.iadd, 1) := by decide +kernel
theorem dX6_add_55 : decode cX6_add 55 = .ok (.putfield 20, 3) := by decide +kernel
theorem dX6_add_58 : decode cX6_add 58 = .ok (.iconst 1, 1) := by decide +kernel
theorem dX6_add_59 : decode cX6_add 59 = .ok (.ireturn, 1) := by decide +kernel
theorem dX6_wouldBe_0 : decode cX6_wouldBe 0 = .ok (.iconst 0, 1) := by decide +kernel
theorem dX6_wouldBe_1 : decode cX6_wouldBe 1 = .ok (.istore 4, 2) := by decide +kernel
theorem dX6_wouldBe_3 : decode cX6_wouldBe 3 = .ok (.iload 4, 2) := by decide +kernel
theorem dX6_wouldBe_5 : decode cX6_wouldBe 5 = .ok (.aload_n 0, 1) := by decide +kernel
theorem dX6_wouldBe_6 : decode cX6_wouldBe 6 = .ok (.getfield 20, 3) := by decide +kernel
theorem dX6_wouldBe_9 : decode cX6_wouldBe 9 = .ok (.if_icmp .ge 51, 3) := by decide +kernel
theorem dX6_wouldBe_12 : decode cX6_wouldBe 12 = .ok (.iload 4, 2) := by decide +kernel
theorem dX6_wouldBe_14 : decode cX6_wouldBe 14 = .ok (.bipush 8, 2) := by decide +kernel
theorem dX6_wouldBe_16 : decode cX6_wouldBe 16 = .ok (.if_icmp .ge 44, 3) := by decide +kernel
theorem dX6_wouldBe_19 : decode cX6_wouldBe 19 = .ok (.aload_n 0, 1) := by decide +kernel
theorem dX6_wouldBe_20 : decode cX6_wouldBe 20 = .ok (.getfield 9, 3) := by decide +kernel
theorem dX6_wouldBe_23 : decode cX6_wouldBe 23 = .ok (.iload 4, 2) := by decide +kernel
theorem dX6_wouldBe_25 : decode cX6_wouldBe 25 = .ok (.iaload, 1) := by decide +kernel
theorem dX6_wouldBe_26 : decode cX6_wouldBe 26 = .ok (.iload_n 1, 1) := by decide +kernel
theorem dX6_wouldBe_27 : decode cX6_wouldBe 27 = .ok (.if_icmp .ne 27, 3) := by decide +kernel
theorem dX6_wouldBe_30 : decode cX6_wouldBe 30 = .ok (.iload_n 2, 1) := by decide +kernel
theorem dX6_wouldBe_31 : decode cX6_wouldBe 31 = .ok (.iload_n 3, 1) := by decide +kernel
theorem dX6_wouldBe_32 : decode cX6_wouldBe 32 = .ok (.aload_n 0, 1) := by decide +kernel
theorem dX6_wouldBe_33 : decode cX6_wouldBe 33 = .ok (.getfield 16, 3) := by decide +kernel
theorem dX6_wouldBe_36 : decode cX6_wouldBe 36 = .ok (.iload 4, 2) := by decide +kernel
theorem dX6_wouldBe_38 : decode cX6_wouldBe 38 = .ok (.baload, 1) := by decide +kernel
theorem dX6_wouldBe_39 : decode cX6_wouldBe 39 = .ok (.invokestatic 24, 3) := by decide +kernel
theorem dX6_wouldBe_42 : decode cX6_wouldBe 42 = .ok (.aload_n 0, 1) := by decide +kernel
theorem dX6_wouldBe_43 : decode cX6_wouldBe 43 = .ok (.getfield 13, 3) := by decide +kernel
theorem dX6_wouldBe_46 : decode cX6_wouldBe 46 = .ok (.iload 4, 2) := by decide +kernel
theorem dX6_wouldBe_48 : decode cX6_wouldBe 48 = .ok (.iaload, 1) := by decide +kernel
theorem dX6_wouldBe_49 : decode cX6_wouldBe 49 = .ok (.if_icmp .eq 5, 3) := by decide +kernel
theorem dX6_wouldBe_52 : decode cX6_wouldBe 52 = .ok (.iconst 0, 1) := by decide +kernel
theorem dX6_wouldBe_53 : decode cX6_wouldBe 53 = .ok (.ireturn, 1) := by decide +kernel
theorem dX6_wouldBe_54 : decode cX6_wouldBe 54 = .ok (.iinc 4 1, 3) := by decide +kernel
theorem dX6_wouldBe_57 : decode cX6_wouldBe 57 = .ok (.goto (-54), 3) := by decide +kernel
theorem dX6_wouldBe_60 : decode cX6_wouldBe 60 = .ok (.iconst 1, 1) := by decide +kernel
theorem dX6_wouldBe_61 : decode cX6_wouldBe 61 = .ok (.ireturn, 1) := by decide +kernel
theorem dX7_init_0 : decode cX7_init 0 = .ok (.aload_n 0, 1) := by decide +kernel
theorem dX7_init_1 : decode cX7_init 1 = .ok (.invokespecial 3, 3) := by decide +kernel
theorem dX7_init_4 : decode cX7_init 4 = .ok (.aload_n 0, 1) := by decide +kernel
theorem dX7_init_5 : decode cX7_init 5 = .ok (.sipush 200, 3) := by decide +kernel
theorem dX7_init_8 : decode cX7_init 8 = .ok (.newarray .char, 2) := by decide +kernel
theorem dX7_init_10 : decode cX7_init 10 = .ok (.putfield 9, 3) := by decide +kernel
theorem dX7_init_13 : decode cX7_init 13 = .ok (.return_, 1) := by decide +kernel
theorem dX7_add_0 : decode cX7_add 0 = .ok (.aload_n 0, 1) := by decide +kernel
theorem dX7_add_1 : decode cX7_add 1 = .ok (.getfield 15, 3) := by decide +kernel
theorem dX7_add_4 : decode cX7_add 4 = .ok (.ifCond .lt 15, 3) := by decide +kernel
theorem dX7_add_7 : decode cX7_add 7 = .ok (.aload_n 0, 1) := by decide +kernel
theorem dX7_add_8 : decode cX7_add 8 = .ok (.getfield 15, 3) := by decide +kernel
theorem dX7_add_11 : decode cX7_add 11 = .ok (.aload_n 0, 1) := by decide +kernel
theorem dX7_add_12 : decode cX7_add 12 = .ok (.getfield 9, 3) := by decide +kernel
theorem dX7_add_15 : decode cX7_add 15 = .ok (.arraylength, 1) := by decide +kernel
theorem dX7_add_16 : decode cX7_add 16 = .ok (.if_icmp .lt 5, 3) := by decide +kernel
theorem dX7_add_19 : decode cX7_add 19 = .ok (.iconst 0, 1) := by decide +kernel
theorem dX7_add_20 : decode cX7_add 20 = .ok (.ireturn, 1) := by decide +kernel
theorem dX7_add_21 : decode cX7_add 21 = .ok (.aload_n 0, 1) := by decide +kernel
theorem dX7_add_22 : decode cX7_add 22 = .ok (.getfield 9, 3) := by decide +kernel
theorem dX7_add_25 : decode cX7_add 25 = .ok (.aload_n 0, 1) := by decide +kernel
theorem dX7_add_26 : decode cX7_add 26 = .ok (.getfield 15, 3) := by decide +kernel
theorem dX7_add_29 : decode cX7_add 29 = .ok (.iload_n 1, 1) := by decide +kernel
theorem dX7_add_30 : decode cX7_add 30 = .ok (.castore, 1) := by decide +kernel
theorem dX7_add_31 : decode cX7_add 31 = .ok (.aload_n 0, 1) := by decide +kernel
theorem dX7_add_32 : decode cX7_add 32 = .ok (.dup, 1) := by decide +kernel
theorem dX7_add_33 : decode cX7_add 33 = .ok (.getfield 15, 3) := by decide +kernel
theorem dX7_add_36 : decode cX7_add 36 = .ok (.iconst 1, 1) := by decide +kernel
theorem dX7_add_37 : decode cX7_add 37 = .ok (.iadd, 1) := by decide +kernel
theorem dX7_add_38 : decode cX7_add 38 = .ok (.putfield 15, 3) := by decide +kernel
theorem dX7_add_41 : decode cX7_add 41 = .ok (.iconst 1, 1) := by decide +kernel
theorem dX7_add_42 : decode cX7_add 42 = .ok (.ireturn, 1) := by decide +kernel
theorem dX7_clear_0 : decode cX7_clear 0 = .ok (.aload_n 0, 1) := by decide +kernel
theorem dX7_clear_1 : decode cX7_clear 1 = .ok (.iconst 0, 1) := by decide +kernel
theorem dX7_clear_2 : decode cX7_clear 2 = .ok (.putfield 15, 3) := by decide +kernel
theorem dX7_clear_5 : decode cX7_clear 5 = .ok (.return_, 1) := by decide +kernel
theorem dX7_readInto_0 : decode cX7_readInto 0 = .ok (.aload_n 1, 1) := by decide +kernel
theorem dX7_readInto_1 : decode cX7_readInto 1 = .ok (.invokevirtual 19, 3) := by decide +kernel
theorem dX7_readInto_4 : decode cX7_readInto 4 = .ok (.iconst 0, 1) := by decide +kernel
theorem dX7_readInto_5 : decode cX7_readInto 5 = .ok (.istore_n 2, 1) := by decide +kernel
theorem dX7_readInto_6 : decode cX7_readInto 6 = .ok (.iload_n 2, 1) := by decide +kernel
theorem dX7_readInto_7 : decode cX7_readInto 7 = .ok (.aload_n 0, 1) := by decide +kernel
theorem dX7_readInto_8 : decode cX7_readInto 8 = .ok (.getfield 15, 3) := by decide +kernel
theorem dX7_readInto_11 : decode cX7_readInto 11 = .ok (.if_icmp .ge 22, 3) := by decide +kernel
theorem dX7_readInto_14 : decode cX7_readInto 14 = .ok (.aload_n 0, 1) := by decide +kernel
theorem dX7_readInto_15 : decode cX7_readInto 15 = .ok (.iload_n 2, 1) := by decide +kernel
theorem dX7_readInto_16 : decode cX7_readInto 16 = .ok (.aload_n 1, 1) := by decide +kernel
theorem dX7_readInto_17 : decode cX7_readInto 17 = .ok (.invokevirtual 24, 3) := by decide +kernel
theorem dX7_readInto_20 : decode cX7_readInto 20 = .ok (.istore_n 3, 1) := by decide +kernel
theorem dX7_readInto_21 : decode cX7_readInto 21 = .ok (.iload_n 3, 1) := by decide +kernel
theorem dX7_readInto_22 : decode cX7_readInto 22 = .ok (.iload_n 2, 1) := by decide +kernel
theorem dX7_readInto_23 : decode cX7_readInto 23 = .ok (.if_icmp .gt 5, 3) := by decide +kernel
theorem dX7_readInto_26 : decode cX7_readInto 26 = .ok (.iload_n 2, 1) := by decide +kernel
theorem dX7_readInto_27 : decode cX7_readInto 27 = .ok (.ireturn, 1) := by decide +kernel
theorem dX7_readInto_28 : decode cX7_readInto 28 = .ok (.iload_n 3, 1) := by decide +kernel
theorem dX7_readInto_29 : decode cX7_readInto 29 = .ok (.istore_n 2, 1) := by decide +kernel
theorem dX7_readInto_30 : decode cX7_readInto 30 = .ok (.goto (-24), 3) := by decide +kernel
theorem dX7_readInto_33 : decode cX7_readInto 33 = .ok (.bipush (-4), 2) := by decide +kernel
theorem dX7_readInto_35 : decode cX7_readInto 35 = .ok (.ireturn, 1) := by decide +kernel
theorem dX7_readItem_0 : decode cX7_readItem 0 = .ok (.aload_n 0, 1) := by decide +kernel
theorem dX7_readItem_1 : decode cX7_readItem 1 = .ok (.iload_n 1, 1) := by decide +kernel
theorem dX7_readItem_2 : decode cX7_readItem 2 = .ok (.invokevirtual 28, 3) := by decide +kernel
theorem dX7_readItem_5 : decode cX7_readItem 5 = .ok (.istore_n 3, 1) := by decide +kernel
theorem dX7_readItem_6 : decode cX7_readItem 6 = .ok (.iload_n 1, 1) := by decide +kernel
theorem dX7_readItem_7 : decode cX7_readItem 7 = .ok (.iconst 1, 1) := by decide +kernel
theorem dX7_readItem_8 : decode cX7_readItem 8 = .ok (.iadd, 1) := by decide +kernel
theorem dX7_readItem_9 : decode cX7_readItem 9 = .ok (.istore 4, 2) := by decide +kernel
theorem dX7_readItem_11 : decode cX7_readItem 11 = .ok (.aload_n 0, 1) := by decide +kernel
theorem dX7_readItem_12 : decode cX7_readItem 12 = .ok (.iload 4, 2) := by decide +kernel
theorem dX7_readItem_14 : decode cX7_readItem 14 = .ok (.invokevirtual 32, 3) := by decide +kernel
theorem dX7_readItem_17 : decode cX7_readItem 17 = .ok (.istore 5, 2) := by decide +kernel
theorem dX7_readItem_19 : decode cX7_readItem 19 = .ok (.iload 4, 2) := by decide +kernel
theorem dX7_readItem_21 : decode cX7_readItem 21 = .ok (.aload_n 0, 1) := by decide +kernel
theorem dX7_readItem_22 : decode cX7_readItem 22 = .ok (.iload 4, 2) := by decide +kernel
theorem dX7_readItem_24 : decode cX7_readItem 24 = .ok (.invokevirtual 36, 3) := by decide +kernel
theorem dX7_readItem_27 : decode cX7_readItem 27 = .ok (.iadd, 1) := by decide +kernel
theorem dX7_readItem_28 : decode cX7_readItem 28 = .ok (.istore 4, 2) := by decide +kernel
theorem dX7_readItem_30 : decode cX7_readItem 30 = .ok (.iconst (-1), 1) := by decide +kernel
theorem dX7_readItem_31 : decode cX7_readItem 31 = .ok (.istore 6, 2) := by decide +kernel
theorem dX7_readItem_33 : decode cX7_readItem 33 = .ok (.aload_n 0, 1) := by decide +kernel
theorem dX7_readItem_34 : decode cX7_readItem 34 = .ok (.iload 4, 2) := by decide +kernel
theorem dX7_readItem_36 : decode cX7_readItem 36 = .ok (.invokevirtual 28, 3) := by decide +kernel
theorem dX7_readItem_39 : decode cX7_readItem 39 = .ok (.bipush 44, 2) := by decide +kernel
theorem dX7_readItem_41 : decode cX7_readItem 41 = .ok (.if_icmp .ne 36, 3) := by decide +kernel
theorem dX7_readItem_44 : decode cX7_readItem 44 = .ok (.aload_n 0, 1) := by decide +kernel
theorem dX7_readItem_45 : decode cX7_readItem 45 = .ok (.iload 4, 2) := by decide +kernel
theorem dX7_readItem_47 : decode cX7_readItem 47 = .ok (.iconst 1, 1) := by decide +kernel
theorem dX7_readItem_48 : decode cX7_readItem 48 = .ok (.iadd, 1) := by decide +kernel
theorem dX7_readItem_49 : decode cX7_readItem 49 = .ok (.invokevirtual 32, 3) := by decide +kernel
theorem dX7_readItem_52 : decode cX7_readItem 52 = .ok (.istore 6, 2) := by decide +kernel
theorem dX7_readItem_54 : decode cX7_readItem 54 = .ok (.iload 6, 2) := by decide +kernel
theorem dX7_readItem_56 : decode cX7_readItem 56 = .ok (.iconst (-1), 1) := by decide +kernel
theorem dX7_readItem_57 : decode cX7_readItem 57 = .ok (.if_icmp .ne 5, 3) := by decide +kernel
theorem dX7_readItem_60 : decode cX7_readItem 60 = .ok (.iload_n 1, 1) := by decide +kernel
theorem dX7_readItem_61 : decode cX7_readItem 61 = .ok (.ireturn, 1) := by decide +kernel
theorem dX7_readItem_62 : decode cX7_readItem 62 = .ok (.iload 4, 2) := by decide +kernel
theorem dX7_readItem_64 : decode cX7_readItem 64 = .ok (.iconst 1, 1) := by decide +kernel
theorem dX7_readItem_65 : decode cX7_readItem 65 = .ok (.aload_n 0, 1) := by decide +kernel
theorem dX7_readItem_66 : decode cX7_readItem 66 = .ok (.iload 4, 2) := by decide +kernel
theorem dX7_readItem_68 : decode cX7_readItem 68 = .ok (.iconst 1, 1) := by decide +kernel
theorem dX7_readItem_69 : decode cX7_readItem 69 = .ok (.iadd, 1) := by decide +kernel
theorem dX7_readItem_70 : decode cX7_readItem 70 = .ok (.invokevirtual 36, 3) := by decide +kernel
theorem dX7_readItem_73 : decode cX7_readItem 73 = .ok (.iadd, 1) := by decide +kernel
theorem dX7_readItem_74 : decode cX7_readItem 74 = .ok (.iadd, 1) := by decide +kernel
theorem dX7_readItem_75 : decode cX7_readItem 75 = .ok (.istore 4, 2) := by decide +kernel
theorem dX7_readItem_77 : decode cX7_readItem 77 = .ok (.iload 5, 2) := by decide +kernel
theorem dX7_readItem_79 : decode cX7_readItem 79 = .ok (.iconst (-1), 1) := by decide +kernel
theorem dX7_readItem_80 : decode cX7_readItem 80 = .ok (.if_icmp .eq 18, 3) := by decide +kernel
theorem dX7_readItem_83 : decode cX7_readItem 83 = .ok (.aload_n 0, 1) := by decide +kernel
theorem dX7_readItem_84 : decode cX7_readItem 84 = .ok (.iload 4, 2) := by decide +kernel
theorem dX7_readItem_86 : decode cX7_readItem 86 = .ok (.invokevirtual 28, 3) := by decide +kernel
theorem dX7_readItem_89 : decode cX7_readItem 89 = .ok (.bipush 59, 2) := by decide +kernel
theorem dX7_readItem_91 : decode cX7_readItem 91 = .ok (.if_icmp .ne 7, 3) := by decide +kernel
theorem dX7_readItem_94 : decode cX7_readItem 94 = .ok (.iconst 1, 1) := by decide +kernel
theorem dX7_readItem_95 : decode cX7_readItem 95 = .ok (.goto 4, 3) := by decide +kernel
theorem dX7_readItem_98 : decode cX7_readItem 98 = .ok (.iconst 0, 1) := by decide +kernel
theorem dX7_readItem_99 : decode cX7_readItem 99 = .ok (.istore 7, 2) := by decide +kernel
theorem dX7_readItem_101 : decode cX7_readItem 101 = .ok (.iload 7, 2) := by decide +kernel
theorem dX7_readItem_103 : decode cX7_readItem 103 = .ok (.ifCond .eq 22, 3) := by decide +kernel
theorem dX7_readItem_106 : decode cX7_readItem 106 = .ok (.aload_n 2, 1) := by decide +kernel
theorem dX7_readItem_107 : decode cX7_readItem 107 = .ok (.iload_n 3, 1) := by decide +kernel
theorem dX7_readItem_108 : decode cX7_readItem 108 = .ok (.iload 5, 2) := by decide +kernel
theorem dX7_readItem_110 : decode cX7_readItem 110 = .ok (.iload 6, 2) := by decide +kernel
theorem dX7_readItem_112 : decode cX7_readItem 112 = .ok (.invokevirtual 39, 3) := by decide +kernel
theorem dX7_readItem_115 : decode cX7_readItem 115 = .ok (.ifCond .eq 10, 3) := by decide +kernel
theorem dX7_readItem_118 : decode cX7_readItem 118 = .ok (.iload 4, 2) := by decide +kernel
theorem dX7_readItem_120 : decode cX7_readItem 120 = .ok (.iconst 1, 1) := by decide +kernel
theorem dX7_readItem_121 : decode cX7_readItem 121 = .ok (.iadd, 1) := by decide +kernel
theorem dX7_readItem_122 : decode cX7_readItem 122 = .ok (.goto 4, 3) := by decide +kernel
theorem dX7_readItem_125 : decode cX7_readItem 125 = .ok (.iload_n 1, 1) := by decide +kernel
theorem dX7_readItem_126 : decode cX7_readItem 126 = .ok (.ireturn, 1) := by decide +kernel
theorem dX7_numberAt_0 : decode cX7_numberAt 0 = .ok (.aload_n 0, 1) := by decide +kernel
theorem dX7_numberAt_1 : decode cX7_numberAt 1 = .ok (.iload_n 1, 1) := by decide +kernel
theorem dX7_numberAt_2 : decode cX7_numberAt 2 = .ok (.invokevirtual 36, 3) := by decide +kernel
theorem dX7_numberAt_5 : decode cX7_numberAt 5 = .ok (.istore_n 2, 1) := by decide +kernel
theorem dX7_numberAt_6 : decode cX7_numberAt 6 = .ok (.iload_n 2, 1) := by decide +kernel
theorem dX7_numberAt_7 : decode cX7_numberAt 7 = .ok (.ifCond .ne 5, 3) := by decide +kernel
theorem dX7_numberAt_10 : decode cX7_numberAt 10 = .ok (.iconst (-1), 1) := by decide +kernel
theorem dX7_numberAt_11 : decode cX7_numberAt 11 = .ok (.ireturn, 1) := by decide +kernel
theorem dX7_numberAt_12 : decode cX7_numberAt 12 = .ok (.aload_n 0, 1) := by decide +kernel
theorem dX7_numberAt_13 : decode cX7_numberAt 13 = .ok (.iload_n 1, 1) := by decide +kernel
theorem dX7_numberAt_14 : decode cX7_numberAt 14 = .ok (.invokevirtual 28, 3) := by decide +kernel
theorem dX7_numberAt_17 : decode cX7_numberAt 17 = .ok (.bipush 48, 2) := by decide +kernel
theorem dX7_numberAt_19 : decode cX7_numberAt 19 = .ok (.isub, 1) := by decide +kernel
theorem dX7_numberAt_20 : decode cX7_numberAt 20 = .ok (.istore_n 3, 1) := by decide +kernel
theorem dX7_numberAt_21 : decode cX7_numberAt 21 = .ok (.iload_n 2, 1) := by decide +kernel
theorem dX7_numberAt_22 : decode cX7_numberAt 22 = .ok (.iconst 1, 1) := by decide +kernel
theorem dX7_numberAt_23 : decode cX7_numberAt 23 = .ok (.if_icmp .ne 7, 3) := by decide +kernel
theorem dX7_numberAt_26 : decode cX7_numberAt 26 = .ok (.iload_n 3, 1) := by decide +kernel
theorem dX7_numberAt_27 : decode cX7_numberAt 27 = .ok (.goto 18, 3) := by decide +kernel
theorem dX7_numberAt_30 : decode cX7_numberAt 30 = .ok (.bipush 10, 2) := by decide +kernel
theorem dX7_numberAt_32 : decode cX7_numberAt 32 = .ok (.iload_n 3, 1) := by decide +kernel
theorem dX7_numberAt_33 : decode cX7_numberAt 33 = .ok (.imul, 1) := by decide +kernel
theorem dX7_numberAt_34 : decode cX7_numberAt 34 = .ok (.aload_n 0, 1) := by decide +kernel
theorem dX7_numberAt_35 : decode cX7_numberAt 35 = .ok (.iload_n 1, 1) := by decide +kernel
theorem dX7_numberAt_36 : decode cX7_numberAt 36 = .ok (.iconst 1, 1) := by decide +kernel
theorem dX7_numberAt_37 : decode cX7_numberAt 37 = .ok (.iadd, 1) := by decide +kernel
theorem dX7_numberAt_38 : decode cX7_numberAt 38 = .ok (.invokevirtual 28, 3) := by decide +kernel
theorem dX7_numberAt_41 : decode cX7_numberAt 41 = .ok (.iadd, 1) := by decide +kernel
theorem dX7_numberAt_42 : decode cX7_numberAt 42 = .ok (.bipush 48, 2) := by decide +kernel
theorem dX7_numberAt_44 : decode cX7_numberAt 44 = .ok (.isub, 1) := by decide +kernel
theorem dX7_numberAt_45 : decode cX7_numberAt 45 = .ok (.ireturn, 1) := by decide +kernel
theorem dX7_figuresAt_0 : decode cX7_figuresAt 0 = .ok (.aload_n 0, 1) := by decide +kernel
theorem dX7_figuresAt_1 : decode cX7_figuresAt 1 = .ok (.iload_n 1, 1) := by decide +kernel
theorem dX7_figuresAt_2 : decode cX7_figuresAt 2 = .ok (.invokevirtual 28, 3) := by decide +kernel
theorem dX7_figuresAt_5 : decode cX7_figuresAt 5 = .ok (.invokestatic 43, 3) := by decide +kernel
theorem dX7_figuresAt_8 : decode cX7_figuresAt 8 = .ok (.ifCond .ne 5, 3) := by decide +kernel
theorem dX7_figuresAt_11 : decode cX7_figuresAt 11 = .ok (.iconst 0, 1) := by decide +kernel
theorem dX7_figuresAt_12 : decode cX7_figuresAt 12 = .ok (.ireturn, 1) := by decide +kernel
theorem dX7_figuresAt_13 : decode cX7_figuresAt 13 = .ok (.aload_n 0, 1) := by decide +kernel
theorem dX7_figuresAt_14 : decode cX7_figuresAt 14 = .ok (.iload_n 1, 1) := by decide +kernel
theorem dX7_figuresAt_15 : decode cX7_figuresAt 15 = .ok (.iconst 1, 1) := by decide +kernel
theorem dX7_figuresAt_16 : decode cX7_figuresAt 16 = .ok (.iadd, 1) := by decide +kernel
theorem dX7_figuresAt_17 : decode cX7_figuresAt 17 = .ok (.invokevirtual 28, 3) := by decide +kernel
theorem dX7_figuresAt_20 : decode cX7_figuresAt 20 = .ok (.invokestatic 43, 3) := by decide +kernel
theorem dX7_figuresAt_23 : decode cX7_figuresAt 23 = .ok (.ifCond .eq 7, 3) := by decide +kernel
theorem dX7_figuresAt_26 : decode cX7_figuresAt 26 = .ok (.iconst 2, 1) := by decide +kernel
theorem dX7_figuresAt_27 : decode cX7_figuresAt 27 = .ok (.goto 4, 3) := by decide +kernel
theorem dX7_figuresAt_30 : decode cX7_figuresAt 30 = .ok (.iconst 1, 1) := by decide +kernel
theorem dX7_figuresAt_31 : decode cX7_figuresAt 31 = .ok (.ireturn, 1) := by decide +kernel
theorem dX7_isFigure_0 : decode cX7_isFigure 0 = .ok (.iload_n 0, 1) := by decide +kernel
theorem dX7_isFigure_1 : decode cX7_isFigure 1 = .ok (.bipush 48, 2) := by decide +kernel
theorem dX7_isFigure_3 : decode cX7_isFigure 3 = .ok (.if_icmp .lt 13, 3) := by decide +kernel
theorem dX7_isFigure_6 : decode cX7_isFigure 6 = .ok (.iload_n 0, 1) := by decide +kernel
theorem dX7_isFigure_7 : decode cX7_isFigure 7 = .ok (.bipush 57, 2) := by decide +kernel
theorem dX7_isFigure_9 : decode cX7_isFigure 9 = .ok (.if_icmp .gt 7, 3) := by decide +kernel
theorem dX7_isFigure_12 : decode cX7_isFigure 12 = .ok (.iconst 1, 1) := by decide +kernel
theorem dX7_isFigure_13 : decode cX7_isFigure 13 = .ok (.goto 4, 3) := by decide +kernel
theorem dX7_isFigure_16 : decode cX7_isFigure 16 = .ok (.iconst 0, 1) := by decide +kernel
theorem dX7_isFigure_17 : decode cX7_isFigure 17 = .ok (.ireturn, 1) := by decide +kernel
theorem dX7_letterAt_0 : decode cX7_letterAt 0 = .ok (.iload_n 1, 1) := by decide +kernel
theorem dX7_letterAt_1 : decode cX7_letterAt 1 = .ok (.ifCond .lt 29, 3) := by decide +kernel
theorem dX7_letterAt_4 : decode cX7_letterAt 4 = .ok (.iload_n 1, 1) := by decide +kernel
theorem dX7_letterAt_5 : decode cX7_letterAt 5 = .ok (.aload_n 0, 1) := by decide +kernel
theorem dX7_letterAt_6 : decode cX7_letterAt 6 = .ok (.getfield 15, 3) := by decide +kernel
theorem dX7_letterAt_9 : decode cX7_letterAt 9 = .ok (.if_icmp .ge 21, 3) := by decide +kernel
theorem dX7_letterAt_12 : decode cX7_letterAt 12 = .ok (.iload_n 1, 1) := by decide +kernel
theorem dX7_letterAt_13 : decode cX7_letterAt 13 = .ok (.aload_n 0, 1) := by decide +kernel
theorem dX7_letterAt_14 : decode cX7_letterAt 14 = .ok (.getfield 9, 3) := by decide +kernel
theorem dX7_letterAt_17 : decode cX7_letterAt 17 = .ok (.arraylength, 1) := by decide +kernel
theorem dX7_letterAt_18 : decode cX7_letterAt 18 = .ok (.if_icmp .ge 12, 3) := by decide +kernel
theorem dX7_letterAt_21 : decode cX7_letterAt 21 = .ok (.aload_n 0, 1) := by decide +kernel
theorem dX7_letterAt_22 : decode cX7_letterAt 22 = .ok (.getfield 9, 3) := by decide +kernel
theorem dX7_letterAt_25 : decode cX7_letterAt 25 = .ok (.iload_n 1, 1) := by decide +kernel
theorem dX7_letterAt_26 : decode cX7_letterAt 26 = .ok (.caload, 1) := by decide +kernel
theorem dX7_letterAt_27 : decode cX7_letterAt 27 = .ok (.goto 4, 3) := by decide +kernel
theorem dX7_letterAt_30 : decode cX7_letterAt 30 = .ok (.iconst 0, 1) := by decide +kernel
theorem dX7_letterAt_31 : decode cX7_letterAt 31 = .ok (.ireturn, 1) := by decide +kernel
theorem dX8_init_0 : decode cX8_init 0 = .ok (.aload_n 0, 1) := by decide +kernel
theorem dX8_init_1 : decode cX8_init 1 = .ok (.invokespecial 1, 3) := by decide +kernel
theorem dX8_init_4 : decode cX8_init 4 = .ok (.aload_n 0, 1) := by decide +kernel
theorem dX8_init_5 : decode cX8_init 5 = .ok (.new 7, 3) := by decide +kernel
theorem dX8_init_8 : decode cX8_init 8 = .ok (.dup, 1) := by decide +kernel
theorem dX8_init_9 : decode cX8_init 9 = .ok (.invokespecial 9, 3) := by decide +kernel
theorem dX8_init_12 : decode cX8_init 12 = .ok (.putfield 10, 3) := by decide +kernel
theorem dX8_init_15 : decode cX8_init 15 = .ok (.aload_n 0, 1) := by decide +kernel
theorem dX8_init_16 : decode cX8_init 16 = .ok (.new 16, 3) := by decide +kernel
theorem dX8_init_19 : decode cX8_init 19 = .ok (.dup, 1) := by decide +kernel
theorem dX8_init_20 : decode cX8_init 20 = .ok (.invokespecial 18, 3) := by decide +kernel
theorem dX8_init_23 : decode cX8_init 23 = .ok (.putfield 19, 3) := by decide +kernel
theorem dX8_init_26 : decode cX8_init 26 = .ok (.aload_n 0, 1) := by decide +kernel
theorem dX8_init_27 : decode cX8_init 27 = .ok (.new 16, 3) := by decide +kernel
theorem dX8_init_30 : decode cX8_init 30 = .ok (.dup, 1) := by decide +kernel
theorem dX8_init_31 : decode cX8_init 31 = .ok (.invokespecial 18, 3) := by decide +kernel
theorem dX8_init_34 : decode cX8_init 34 = .ok (.putfield 23, 3) := by decide +kernel
theorem dX8_init_37 : decode cX8_init 37 = .ok (.aload_n 0, 1) := by decide +kernel
theorem dX8_init_38 : decode cX8_init 38 = .ok (.new 26, 3) := by decide +kernel
theorem dX8_init_41 : decode cX8_init 41 = .ok (.dup, 1) := by decide +kernel
theorem dX8_init_42 : decode cX8_init 42 = .ok (.aload_n 0, 1) := by decide +kernel
theorem dX8_init_43 : decode cX8_init 43 = .ok (.getfield 23, 3) := by decide +kernel
theorem dX8_init_46 : decode cX8_init 46 = .ok (.invokespecial 28, 3) := by decide +kernel
theorem dX8_init_49 : decode cX8_init 49 = .ok (.putfield 31, 3) := by decide +kernel
theorem dX8_init_52 : decode cX8_init 52 = .ok (.aload_n 0, 1) := by decide +kernel
theorem dX8_init_53 : decode cX8_init 53 = .ok (.new 35, 3) := by decide +kernel
theorem dX8_init_56 : decode cX8_init 56 = .ok (.dup, 1) := by decide +kernel
theorem dX8_init_57 : decode cX8_init 57 = .ok (.bipush 8, 2) := by decide +kernel
theorem dX8_init_59 : decode cX8_init 59 = .ok (.aload_n 0, 1) := by decide +kernel
theorem dX8_init_60 : decode cX8_init 60 = .ok (.getfield 23, 3) := by decide +kernel
theorem dX8_init_63 : decode cX8_init 63 = .ok (.invokespecial 37, 3) := by decide +kernel
theorem dX8_init_66 : decode cX8_init 66 = .ok (.putfield 40, 3) := by decide +kernel
theorem dX8_init_69 : decode cX8_init 69 = .ok (.aload_n 0, 1) := by decide +kernel
theorem dX8_init_70 : decode cX8_init 70 = .ok (.new 35, 3) := by decide +kernel
theorem dX8_init_73 : decode cX8_init 73 = .ok (.dup, 1) := by decide +kernel
theorem dX8_init_74 : decode cX8_init 74 = .ok (.iconst 2, 1) := by decide +kernel
theorem dX8_init_75 : decode cX8_init 75 = .ok (.aload_n 0, 1) := by decide +kernel
theorem dX8_init_76 : decode cX8_init 76 = .ok (.getfield 23, 3) := by decide +kernel
theorem dX8_init_79 : decode cX8_init 79 = .ok (.invokespecial 37, 3) := by decide +kernel
theorem dX8_init_82 : decode cX8_init 82 = .ok (.putfield 44, 3) := by decide +kernel
theorem dX8_init_85 : decode cX8_init 85 = .ok (.aload_n 0, 1) := by decide +kernel
theorem dX8_init_86 : decode cX8_init 86 = .ok (.new 47, 3) := by decide +kernel
theorem dX8_init_89 : decode cX8_init 89 = .ok (.dup, 1) := by decide +kernel
theorem dX8_init_90 : decode cX8_init 90 = .ok (.aload_n 0, 1) := by decide +kernel
theorem dX8_init_91 : decode cX8_init 91 = .ok (.getfield 23, 3) := by decide +kernel
theorem dX8_init_94 : decode cX8_init 94 = .ok (.invokespecial 49, 3) := by decide +kernel
theorem dX8_init_97 : decode cX8_init 97 = .ok (.putfield 50, 3) := by decide +kernel
theorem dX8_init_100 : decode cX8_init 100 = .ok (.aload_n 0, 1) := by decide +kernel
theorem dX8_init_101 : decode cX8_init 101 = .ok (.new 54, 3) := by decide +kernel
theorem dX8_init_104 : decode cX8_init 104 = .ok (.dup, 1) := by decide +kernel
theorem dX8_init_105 : decode cX8_init 105 = .ok (.aload_n 0, 1) := by decide +kernel
theorem dX8_init_106 : decode cX8_init 106 = .ok (.getfield 23, 3) := by decide +kernel
theorem dX8_init_109 : decode cX8_init 109 = .ok (.aload_n 0, 1) := by decide +kernel
theorem dX8_init_110 : decode cX8_init 110 = .ok (.getfield 50, 3) := by decide +kernel
theorem dX8_init_113 : decode cX8_init 113 = .ok (.invokespecial 56, 3) := by decide +kernel
theorem dX8_init_116 : decode cX8_init 116 = .ok (.putfield 59, 3) := by decide +kernel
theorem dX8_init_119 : decode cX8_init 119 = .ok (.aload_n 0, 1) := by decide +kernel
theorem dX8_init_120 : decode cX8_init 120 = .ok (.new 63, 3) := by decide +kernel
theorem dX8_init_123 : decode cX8_init 123 = .ok (.dup, 1) := by decide +kernel
theorem dX8_init_124 : decode cX8_init 124 = .ok (.invokespecial 65, 3) := by decide +kernel
theorem dX8_init_127 : decode cX8_init 127 = .ok (.putfield 66, 3) := by decide +kernel
theorem dX8_init_130 : decode cX8_init 130 = .ok (.iconst 0, 1) := by decide +kernel
theorem dX8_init_131 : decode cX8_init 131 = .ok (.istore_n 1, 1) := by decide +kernel
theorem dX8_init_132 : decode cX8_init 132 = .ok (.iload_n 1, 1) := by decide +kernel
theorem dX8_init_133 : decode cX8_init 133 = .ok (.ldc 70, 2) := by decide +kernel
theorem dX8_init_135 : decode cX8_init 135 = .ok (.invokevirtual 72, 3) := by decide +kernel
theorem dX8_init_138 : decode cX8_init 138 = .ok (.if_icmp .ge 23, 3) := by decide +kernel
theorem dX8_init_141 : decode cX8_init 141 = .ok (.aload_n 0, 1) := by decide +kernel
theorem dX8_init_142 : decode cX8_init 142 = .ok (.getfield 10, 3) := by decide +kernel
theorem dX8_init_145 : decode cX8_init 145 = .ok (.ldc 70, 2) := by decide +kernel
theorem dX8_init_147 : decode cX8_init 147 = .ok (.iload_n 1, 1) := by decide +kernel
theorem dX8_init_148 : decode cX8_init 148 = .ok (.invokevirtual 78, 3) := by decide +kernel
theorem dX8_init_151 : decode cX8_init 151 = .ok (.invokevirtual 82, 3) := by decide +kernel
theorem dX8_init_154 : decode cX8_init 154 = .ok (.pop, 1) := by decide +kernel
theorem dX8_init_155 : decode cX8_init 155 = .ok (.iinc 1 1, 3) := by decide +kernel
theorem dX8_init_158 : decode cX8_init 158 = .ok (.goto (-26), 3) := by decide +kernel
theorem dX8_init_161 : decode cX8_init 161 = .ok (.aload_n 0, 1) := by decide +kernel
theorem dX8_init_162 : decode cX8_init 162 = .ok (.getfield 10, 3) := by decide +kernel
theorem dX8_init_165 : decode cX8_init 165 = .ok (.aload_n 0, 1) := by decide +kernel
theorem dX8_init_166 : decode cX8_init 166 = .ok (.getfield 23, 3) := by decide +kernel
theorem dX8_init_169 : decode cX8_init 169 = .ok (.invokevirtual 86, 3) := by decide +kernel
theorem dX8_init_172 : decode cX8_init 172 = .ok (.pop, 1) := by decide +kernel
theorem dX8_init_173 : decode cX8_init 173 = .ok (.aload_n 0, 1) := by decide +kernel
theorem dX8_init_174 : decode cX8_init 174 = .ok (.getfield 10, 3) := by decide +kernel
theorem dX8_init_177 : decode cX8_init 177 = .ok (.invokevirtual 90, 3) := by decide +kernel
theorem dX8_init_180 : decode cX8_init 180 = .ok (.aload_n 0, 1) := by decide +kernel
theorem dX8_init_181 : decode cX8_init 181 = .ok (.getfield 31, 3) := by decide +kernel
theorem dX8_init_184 : decode cX8_init 184 = .ok (.aload_n 0, 1) := by decide +kernel
theorem dX8_init_185 : decode cX8_init 185 = .ok (.getfield 23, 3) := by decide +kernel
theorem dX8_init_188 : decode cX8_init 188 = .ok (.getfield 93, 3) := by decide +kernel
theorem dX8_init_191 : decode cX8_init 191 = .ok (.invokevirtual 97, 3) := by decide +kernel
theorem dX8_init_194 : decode cX8_init 194 = .ok (.return_, 1) := by decide +kernel
theorem dX8_write_0 : decode cX8_write 0 = .ok (.iload_n 1, 1) := by decide +kernel
theorem dX8_write_1 : decode cX8_write 1 = .ok (.bipush 32, 2) := by decide +kernel
theorem dX8_write_3 : decode cX8_write 3 = .ok (.if_icmp .lt 9, 3) := by decide +kernel
theorem dX8_write_6 : decode cX8_write 6 = .ok (.iload_n 1, 1) := by decide +kernel
theorem dX8_write_7 : decode cX8_write 7 = .ok (.bipush 126, 2) := by decide +kernel
theorem dX8_write_9 : decode cX8_write 9 = .ok (.if_icmp .le 5, 3) := by decide +kernel
theorem dX8_write_12 : decode cX8_write 12 = .ok (.iconst (-1), 1) := by decide +kernel
theorem dX8_write_13 : decode cX8_write 13 = .ok (.ireturn, 1) := by decide +kernel
theorem dX8_write_14 : decode cX8_write 14 = .ok (.aload_n 0, 1) := by decide +kernel
theorem dX8_write_15 : decode cX8_write 15 = .ok (.getfield 10, 3) := by decide +kernel
theorem dX8_write_18 : decode cX8_write 18 = .ok (.iload_n 1, 1) := by decide +kernel
theorem dX8_write_19 : decode cX8_write 19 = .ok (.i2c, 1) := by decide +kernel
theorem dX8_write_20 : decode cX8_write 20 = .ok (.invokevirtual 82, 3) := by decide +kernel
theorem dX8_write_23 : decode cX8_write 23 = .ok (.ifCond .eq 13, 3) := by decide +kernel
theorem dX8_write_26 : decode cX8_write 26 = .ok (.aload_n 0, 1) := by decide +kernel
theorem dX8_write_27 : decode cX8_write 27 = .ok (.getfield 10, 3) := by decide +kernel
theorem dX8_write_30 : decode cX8_write 30 = .ok (.getfield 101, 3) := by decide +kernel
theorem dX8_write_33 : decode cX8_write 33 = .ok (.goto 5, 3) := by decide +kernel
theorem dX8_write_36 : decode cX8_write 36 = .ok (.bipush (-3), 2) := by decide +kernel
theorem dX8_write_38 : decode cX8_write 38 = .ok (.ireturn, 1) := by decide +kernel
theorem dX8_wipe_0 : decode cX8_wipe 0 = .ok (.aload_n 0, 1) := by decide +kernel
theorem dX8_wipe_1 : decode cX8_wipe 1 = .ok (.getfield 10, 3) := by decide +kernel
theorem dX8_wipe_4 : decode cX8_wipe 4 = .ok (.getfield 101, 3) := by decide +kernel
theorem dX8_wipe_7 : decode cX8_wipe 7 = .ok (.istore_n 1, 1) := by decide +kernel
theorem dX8_wipe_8 : decode cX8_wipe 8 = .ok (.aload_n 0, 1) := by decide +kernel
theorem dX8_wipe_9 : decode cX8_wipe 9 = .ok (.getfield 10, 3) := by decide +kernel
theorem dX8_wipe_12 : decode cX8_wipe 12 = .ok (.invokevirtual 90, 3) := by decide +kernel
theorem dX8_wipe_15 : decode cX8_wipe 15 = .ok (.iload_n 1, 1) := by decide +kernel
theorem dX8_wipe_16 : decode cX8_wipe 16 = .ok (.ireturn, 1) := by decide +kernel
theorem dX8_fault_0 : decode cX8_fault 0 = .ok (.aload_n 0, 1) := by decide +kernel
theorem dX8_fault_1 : decode cX8_fault 1 = .ok (.getfield 10, 3) := by decide +kernel
theorem dX8_fault_4 : decode cX8_fault 4 = .ok (.aload_n 0, 1) := by decide +kernel
theorem dX8_fault_5 : decode cX8_fault 5 = .ok (.getfield 19, 3) := by decide +kernel
theorem dX8_fault_8 : decode cX8_fault 8 = .ok (.invokevirtual 86, 3) := by decide +kernel
theorem dX8_fault_11 : decode cX8_fault 11 = .ok (.ireturn, 1) := by decide +kernel
theorem dX8_lay_0 : decode cX8_lay 0 = .ok (.aload_n 0, 1) := by decide +kernel
theorem dX8_lay_1 : decode cX8_lay 1 = .ok (.getfield 10, 3) := by decide +kernel
theorem dX8_lay_4 : decode cX8_lay 4 = .ok (.aload_n 0, 1) := by decide +kernel
theorem dX8_lay_5 : decode cX8_lay 5 = .ok (.getfield 19, 3) := by decide +kernel
theorem dX8_lay_8 : decode cX8_lay 8 = .ok (.invokevirtual 86, 3) := by decide +kernel
theorem dX8_lay_11 : decode cX8_lay 11 = .ok (.bipush (-4), 2) := by decide +kernel
theorem dX8_lay_13 : decode cX8_lay 13 = .ok (.if_icmp .ne 13, 3) := by decide +kernel
theorem dX8_lay_16 : decode cX8_lay 16 = .ok (.aload_n 0, 1) := by decide +kernel
theorem dX8_lay_17 : decode cX8_lay 17 = .ok (.getfield 19, 3) := by decide +kernel
theorem dX8_lay_20 : decode cX8_lay 20 = .ok (.getfield 103, 3) := by decide +kernel
theorem dX8_lay_23 : decode cX8_lay 23 = .ok (.ifCond .ne 6, 3) := by decide +kernel
theorem dX8_lay_26 : decode cX8_lay 26 = .ok (.bipush (-2), 2) := by decide +kernel
theorem dX8_lay_28 : decode cX8_lay 28 = .ok (.ireturn, 1) := by decide +kernel
theorem dX8_lay_29 : decode cX8_lay 29 = .ok (.aload_n 0, 1) := by decide +kernel
theorem dX8_lay_30 : decode cX8_lay 30 = .ok (.getfield 23, 3) := by decide +kernel
theorem dX8_lay_33 : decode cX8_lay 33 = .ok (.aload_n 0, 1) := by decide +kernel
theorem dX8_lay_34 : decode cX8_lay 34 = .ok (.getfield 19, 3) := by decide +kernel
theorem dX8_lay_37 : decode cX8_lay 37 = .ok (.invokevirtual 106, 3) := by decide +kernel
theorem dX8_lay_40 : decode cX8_lay 40 = .ok (.aload_n 0, 1) := by decide +kernel
theorem dX8_lay_41 : decode cX8_lay 41 = .ok (.getfield 31, 3) := by decide +kernel
theorem dX8_lay_44 : decode cX8_lay 44 = .ok (.aload_n 0, 1) := by decide +kernel
theorem dX8_lay_45 : decode cX8_lay 45 = .ok (.getfield 23, 3) := by decide +kernel
theorem dX8_lay_48 : decode cX8_lay 48 = .ok (.getfield 93, 3) := by decide +kernel
theorem dX8_lay_51 : decode cX8_lay 51 = .ok (.invokevirtual 97, 3) := by decide +kernel
theorem dX8_lay_54 : decode cX8_lay 54 = .ok (.aload_n 0, 1) := by decide +kernel
theorem dX8_lay_55 : decode cX8_lay 55 = .ok (.getfield 40, 3) := by decide +kernel
theorem dX8_lay_58 : decode cX8_lay 58 = .ok (.invokevirtual 109, 3) := by decide +kernel
theorem dX8_lay_61 : decode cX8_lay 61 = .ok (.aload_n 0, 1) := by decide +kernel
theorem dX8_lay_62 : decode cX8_lay 62 = .ok (.getfield 44, 3) := by decide +kernel
theorem dX8_lay_65 : decode cX8_lay 65 = .ok (.invokevirtual 109, 3) := by decide +kernel
theorem dX8_lay_68 : decode cX8_lay 68 = .ok (.aload_n 0, 1) := by decide +kernel
theorem dX8_lay_69 : decode cX8_lay 69 = .ok (.getfield 66, 3) := by decide +kernel
theorem dX8_lay_72 : decode cX8_lay 72 = .ok (.iconst 0, 1) := by decide +kernel
theorem dX8_lay_73 : decode cX8_lay 73 = .ok (.putfield 110, 3) := by decide +kernel
theorem dX8_lay_76 : decode cX8_lay 76 = .ok (.aload_n 0, 1) := by decide +kernel
theorem dX8_lay_77 : decode cX8_lay 77 = .ok (.getfield 23, 3) := by decide +kernel
theorem dX8_lay_80 : decode cX8_lay 80 = .ok (.getfield 103, 3) := by decide +kernel
theorem dX8_lay_83 : decode cX8_lay 83 = .ok (.ireturn, 1) := by decide +kernel
theorem dX8_child_0 : decode cX8_child 0 = .ok (.aload_n 0, 1) := by decide +kernel
theorem dX8_child_1 : decode cX8_child 1 = .ok (.getfield 23, 3) := by decide +kernel
theorem dX8_child_4 : decode cX8_child 4 = .ok (.iload_n 1, 1) := by decide +kernel
theorem dX8_child_5 : decode cX8_child 5 = .ok (.invokevirtual 113, 3) := by decide +kernel
theorem dX8_child_8 : decode cX8_child 8 = .ok (.ifCond .ne 5, 3) := by decide +kernel
theorem dX8_child_11 : decode cX8_child 11 = .ok (.iconst (-1), 1) := by decide +kernel
theorem dX8_child_12 : decode cX8_child 12 = .ok (.ireturn, 1) := by decide +kernel
theorem dX8_child_13 : decode cX8_child 13 = .ok (.iload_n 2, 1) := by decide +kernel
theorem dX8_child_14 : decode cX8_child 14 = .ok (.tableswitch 114 0 5 #[38, 48, 58, 86, 95, 104], 38) := by decide +kernel
theorem dX8_child_52 : decode cX8_child 52 = .ok (.aload_n 0, 1) := by decide +kernel
theorem dX8_child_53 : decode cX8_child 53 = .ok (.getfield 23, 3) := by decide +kernel
theorem dX8_child_56 : decode cX8_child 56 = .ok (.getfield 117, 3) := by decide +kernel
theorem dX8_child_59 : decode cX8_child 59 = .ok (.iload_n 1, 1) := by decide +kernel
theorem dX8_child_60 : decode cX8_child 60 = .ok (.iaload, 1) := by decide +kernel
theorem dX8_child_61 : decode cX8_child 61 = .ok (.ireturn, 1) := by decide +kernel
theorem dX8_child_62 : decode cX8_child 62 = .ok (.aload_n 0, 1) := by decide +kernel
theorem dX8_child_63 : decode cX8_child 63 = .ok (.getfield 31, 3) := by decide +kernel
theorem dX8_child_66 : decode cX8_child 66 = .ok (.getfield 121, 3) := by decide +kernel
theorem dX8_child_69 : decode cX8_child 69 = .ok (.iload_n 1, 1) := by decide +kernel
theorem dX8_child_70 : decode cX8_child 70 = .ok (.iaload, 1) := by decide +kernel
theorem dX8_child_71 : decode cX8_child 71 = .ok (.ireturn, 1) := by decide +kernel
theorem dX8_child_72 : decode cX8_child 72 = .ok (.aload_n 0, 1) := by decide +kernel
theorem dX8_child_73 : decode cX8_child 73 = .ok (.getfield 31, 3) := by decide +kernel
theorem dX8_child_76 : decode cX8_child 76 = .ok (.getfield 121, 3) := by decide +kernel
theorem dX8_child_79 : decode cX8_child 79 = .ok (.iload_n 1, 1) := by decide +kernel
theorem dX8_child_80 : decode cX8_child 80 = .ok (.iaload, 1) := by decide +kernel
theorem dX8_child_81 : decode cX8_child 81 = .ok (.iconst 2, 1) := by decide +kernel
theorem dX8_child_82 : decode cX8_child 82 = .ok (.if_icmp .ne 15, 3) := by decide +kernel
theorem dX8_child_85 : decode cX8_child 85 = .ok (.aload_n 0, 1) := by decide +kernel
theorem dX8_child_86 : decode cX8_child 86 = .ok (.getfield 31, 3) := by decide +kernel
theorem dX8_child_89 : decode cX8_child 89 = .ok (.getfield 124, 3) := by decide +kernel
theorem dX8_child_92 : decode cX8_child 92 = .ok (.iload_n 1, 1) := by decide +kernel
theorem dX8_child_93 : decode cX8_child 93 = .ok (.iaload, 1) := by decide +kernel
theorem dX8_child_94 : decode cX8_child 94 = .ok (.goto 5, 3) := by decide +kernel
theorem dX8_child_97 : decode cX8_child 97 = .ok (.bipush (-4), 2) := by decide +kernel
theorem dX8_child_99 : decode cX8_child 99 = .ok (.ireturn, 1) := by decide +kernel
theorem dX8_child_100 : decode cX8_child 100 = .ok (.aload_n 0, 1) := by decide +kernel
theorem dX8_child_101 : decode cX8_child 101 = .ok (.getfield 31, 3) := by decide +kernel
theorem dX8_child_104 : decode cX8_child 104 = .ok (.iload_n 1, 1) := by decide +kernel
theorem dX8_child_105 : decode cX8_child 105 = .ok (.invokevirtual 127, 3) := by decide +kernel
theorem dX8_child_108 : decode cX8_child 108 = .ok (.ireturn, 1) := by decide +kernel
theorem dX8_child_109 : decode cX8_child 109 = .ok (.aload_n 0, 1) := by decide +kernel
theorem dX8_child_110 : decode cX8_child 110 = .ok (.getfield 31, 3) := by decide +kernel
theorem dX8_child_113 : decode cX8_child 113 = .ok (.iload_n 1, 1) := by decide +kernel
theorem dX8_child_114 : decode cX8_child 114 = .ok (.invokevirtual 131, 3) := by decide +kernel
theorem dX8_child_117 : decode cX8_child 117 = .ok (.ireturn, 1) := by decide +kernel
theorem dX8_child_118 : decode cX8_child 118 = .ok (.aload_n 0, 1) := by decide +kernel
theorem dX8_child_119 : decode cX8_child 119 = .ok (.getfield 31, 3) := by decide +kernel
theorem dX8_child_122 : decode cX8_child 122 = .ok (.getfield 134, 3) := by decide +kernel
theorem dX8_child_125 : decode cX8_child 125 = .ok (.iload_n 1, 1) := by decide +kernel
theorem dX8_child_126 : decode cX8_child 126 = .ok (.iaload, 1) := by decide +kernel
theorem dX8_child_127 : decode cX8_child 127 = .ok (.ireturn, 1) := by decide +kernel
theorem dX8_child_128 : decode cX8_child 128 = .ok (.iconst (-1), 1) := by decide +kernel
theorem dX8_child_129 : decode cX8_child 129 = .ok (.ireturn, 1) := by decide +kernel
theorem dX8_woman_0 : decode cX8_woman 0 = .ok (.aload_n 0, 1) := by decide +kernel
theorem dX8_woman_1 : decode cX8_woman 1 = .ok (.getfield 31, 3) := by decide +kernel
theorem dX8_woman_4 : decode cX8_woman 4 = .ok (.iload_n 1, 1) := by decide +kernel
theorem dX8_woman_5 : decode cX8_woman 5 = .ok (.invokevirtual 137, 3) := by decide +kernel
theorem dX8_woman_8 : decode cX8_woman 8 = .ok (.ifCond .ne 5, 3) := by decide +kernel
theorem dX8_woman_11 : decode cX8_woman 11 = .ok (.iconst (-1), 1) := by decide +kernel
theorem dX8_woman_12 : decode cX8_woman 12 = .ok (.ireturn, 1) := by decide +kernel
theorem dX8_woman_13 : decode cX8_woman 13 = .ok (.iload_n 2, 1) := by decide +kernel
theorem dX8_woman_14 : decode cX8_woman 14 = .ok (.lookupswitch 46 #[(0, 26), (1, 36)], 26) := by decide +kernel
theorem dX8_woman_40 : decode cX8_woman 40 = .ok (.aload_n 0, 1) := by decide +kernel
theorem dX8_woman_41 : decode cX8_woman 41 = .ok (.getfield 31, 3) := by decide +kernel
theorem dX8_woman_44 : decode cX8_woman 44 = .ok (.getfield 140, 3) := by decide +kernel
theorem dX8_woman_47 : decode cX8_woman 47 = .ok (.iload_n 1, 1) := by decide +kernel
theorem dX8_woman_48 : decode cX8_woman 48 = .ok (.iaload, 1) := by decide +kernel
theorem dX8_woman_49 : decode cX8_woman 49 = .ok (.ireturn, 1) := by decide +kernel
theorem dX8_woman_50 : decode cX8_woman 50 = .ok (.aload_n 0, 1) := by decide +kernel
theorem dX8_woman_51 : decode cX8_woman 51 = .ok (.getfield 31, 3) := by decide +kernel
theorem dX8_woman_54 : decode cX8_woman 54 = .ok (.getfield 143, 3) := by decide +kernel
theorem dX8_woman_57 : decode cX8_woman 57 = .ok (.iload_n 1, 1) := by decide +kernel
theorem dX8_woman_58 : decode cX8_woman 58 = .ok (.iaload, 1) := by decide +kernel
theorem dX8_woman_59 : decode cX8_woman 59 = .ok (.ireturn, 1) := by decide +kernel
theorem dX8_woman_60 : decode cX8_woman 60 = .ok (.iconst (-1), 1) := by decide +kernel
theorem dX8_woman_61 : decode cX8_woman 61 = .ok (.ireturn, 1) := by decide +kernel
theorem dX8_take_0 : decode cX8_take 0 = .ok (.aload_n 0, 1) := by decide +kernel
theorem dX8_take_1 : decode cX8_take 1 = .ok (.getfield 31, 3) := by decide +kernel
theorem dX8_take_4 : decode cX8_take 4 = .ok (.iload_n 1, 1) := by decide +kernel
theorem dX8_take_5 : decode cX8_take 5 = .ok (.invokevirtual 137, 3) := by decide +kernel
theorem dX8_take_8 : decode cX8_take 8 = .ok (.ifCond .eq 14, 3) := by decide +kernel
theorem dX8_take_11 : decode cX8_take 11 = .ok (.aload_n 0, 1) := by decide +kernel
theorem dX8_take_12 : decode cX8_take 12 = .ok (.getfield 23, 3) := by decide +kernel
theorem dX8_take_15 : decode cX8_take 15 = .ok (.iload_n 2, 1) := by decide +kernel
theorem dX8_take_16 : decode cX8_take 16 = .ok (.invokevirtual 113, 3) := by decide +kernel
theorem dX8_take_19 : decode cX8_take 19 = .ok (.ifCond .ne 5, 3) := by decide +kernel
theorem dX8_take_22 : decode cX8_take 22 = .ok (.iconst (-1), 1) := by decide +kernel
theorem dX8_take_23 : decode cX8_take 23 = .ok (.ireturn, 1) := by decide +kernel
theorem dX8_take_24 : decode cX8_take 24 = .ok (.aload_n 0, 1) := by decide +kernel
theorem dX8_take_25 : decode cX8_take 25 = .ok (.getfield 31, 3) := by decide +kernel
theorem dX8_take_28 : decode cX8_take 28 = .ok (.iload_n 1, 1) := by decide +kernel
theorem dX8_take_29 : decode cX8_take 29 = .ok (.iload_n 2, 1) := by decide +kernel
theorem dX8_take_30 : decode cX8_take 30 = .ok (.invokevirtual 146, 3) := by decide +kernel
theorem dX8_take_33 : decode cX8_take 33 = .ok (.ifCond .ne 6, 3) := by decide +kernel
theorem dX8_take_36 : decode cX8_take 36 = .ok (.bipush (-2), 2) := by decide +kernel
theorem dX8_take_38 : decode cX8_take 38 = .ok (.ireturn, 1) := by decide +kernel
theorem dX8_take_39 : decode cX8_take 39 = .ok (.aload_n 0, 1) := by decide +kernel
theorem dX8_take_40 : decode cX8_take 40 = .ok (.getfield 40, 3) := by decide +kernel
theorem dX8_take_43 : decode cX8_take 43 = .ok (.aload_n 0, 1) := by decide +kernel
theorem dX8_take_44 : decode cX8_take 44 = .ok (.getfield 31, 3) := by decide +kernel
theorem dX8_take_47 : decode cX8_take 47 = .ok (.invokevirtual 150, 3) := by decide +kernel
theorem dX8_take_50 : decode cX8_take 50 = .ok (.aload_n 0, 1) := by decide +kernel
theorem dX8_take_51 : decode cX8_take 51 = .ok (.getfield 31, 3) := by decide +kernel
theorem dX8_take_54 : decode cX8_take 54 = .ok (.iload_n 1, 1) := by decide +kernel
theorem dX8_take_55 : decode cX8_take 55 = .ok (.iload_n 2, 1) := by decide +kernel
theorem dX8_take_56 : decode cX8_take 56 = .ok (.invokevirtual 154, 3) := by decide +kernel
theorem dX8_take_59 : decode cX8_take 59 = .ok (.ireturn, 1) := by decide +kernel
theorem dX8_layOut_0 : decode cX8_layOut 0 = .ok (.aload_n 0, 1) := by decide +kernel
theorem dX8_layOut_1 : decode cX8_layOut 1 = .ok (.getfield 31, 3) := by decide +kernel
theorem dX8_layOut_4 : decode cX8_layOut 4 = .ok (.iload_n 1, 1) := by decide +kernel
theorem dX8_layOut_5 : decode cX8_layOut 5 = .ok (.invokevirtual 137, 3) := by decide +kernel
theorem dX8_layOut_8 : decode cX8_layOut 8 = .ok (.ifCond .ne 5, 3) := by decide +kernel
theorem dX8_layOut_11 : decode cX8_layOut 11 = .ok (.iconst (-1), 1) := by decide +kernel
theorem dX8_layOut_12 : decode cX8_layOut 12 = .ok (.ireturn, 1) := by decide +kernel
theorem dX8_layOut_13 : decode cX8_layOut 13 = .ok (.aload_n 0, 1) := by decide +kernel
theorem dX8_layOut_14 : decode cX8_layOut 14 = .ok (.getfield 31, 3) := by decide +kernel
theorem dX8_layOut_17 : decode cX8_layOut 17 = .ok (.iload_n 1, 1) := by decide +kernel
theorem dX8_layOut_18 : decode cX8_layOut 18 = .ok (.invokevirtual 158, 3) := by decide +kernel
theorem dX8_layOut_21 : decode cX8_layOut 21 = .ok (.ifCond .ne 6, 3) := by decide +kernel
theorem dX8_layOut_24 : decode cX8_layOut 24 = .ok (.bipush (-2), 2) := by decide +kernel
theorem dX8_layOut_26 : decode cX8_layOut 26 = .ok (.ireturn, 1) := by decide +kernel
theorem dX8_layOut_27 : decode cX8_layOut 27 = .ok (.aload_n 0, 1) := by decide +kernel
theorem dX8_layOut_28 : decode cX8_layOut 28 = .ok (.getfield 40, 3) := by decide +kernel
theorem dX8_layOut_31 : decode cX8_layOut 31 = .ok (.aload_n 0, 1) := by decide +kernel
theorem dX8_layOut_32 : decode cX8_layOut 32 = .ok (.getfield 31, 3) := by decide +kernel
theorem dX8_layOut_35 : decode cX8_layOut 35 = .ok (.invokevirtual 150, 3) := by decide +kernel
theorem dX8_layOut_38 : decode cX8_layOut 38 = .ok (.aload_n 0, 1) := by decide +kernel
theorem dX8_layOut_39 : decode cX8_layOut 39 = .ok (.getfield 31, 3) := by decide +kernel
theorem dX8_layOut_42 : decode cX8_layOut 42 = .ok (.iload_n 1, 1) := by decide +kernel
theorem dX8_layOut_43 : decode cX8_layOut 43 = .ok (.invokevirtual 161, 3) := by decide +kernel
theorem dX8_layOut_46 : decode cX8_layOut 46 = .ok (.ireturn, 1) := by decide +kernel
theorem dX8_door_0 : decode cX8_door 0 = .ok (.aload_n 0, 1) := by decide +kernel
theorem dX8_door_1 : decode cX8_door 1 = .ok (.getfield 31, 3) := by decide +kernel
theorem dX8_door_4 : decode cX8_door 4 = .ok (.iload_n 1, 1) := by decide +kernel
theorem dX8_door_5 : decode cX8_door 5 = .ok (.invokevirtual 137, 3) := by decide +kernel
theorem dX8_door_8 : decode cX8_door 8 = .ok (.ifCond .ne 5, 3) := by decide +kernel
theorem dX8_door_11 : decode cX8_door 11 = .ok (.iconst (-1), 1) := by decide +kernel
theorem dX8_door_12 : decode cX8_door 12 = .ok (.ireturn, 1) := by decide +kernel
theorem dX8_door_13 : decode cX8_door 13 = .ok (.aload_n 0, 1) := by decide +kernel
theorem dX8_door_14 : decode cX8_door 14 = .ok (.getfield 31, 3) := by decide +kernel
theorem dX8_door_17 : decode cX8_door 17 = .ok (.iload_n 1, 1) := by decide +kernel
theorem dX8_door_18 : decode cX8_door 18 = .ok (.invokevirtual 164, 3) := by decide +kernel
theorem dX8_door_21 : decode cX8_door 21 = .ok (.ifCond .ne 6, 3) := by decide +kernel
theorem dX8_door_24 : decode cX8_door 24 = .ok (.bipush (-2), 2) := by decide +kernel
theorem dX8_door_26 : decode cX8_door 26 = .ok (.ireturn, 1) := by decide +kernel
theorem dX8_door_27 : decode cX8_door 27 = .ok (.aload_n 0, 1) := by decide +kernel
theorem dX8_door_28 : decode cX8_door 28 = .ok (.getfield 40, 3) := by decide +kernel
theorem dX8_door_31 : decode cX8_door 31 = .ok (.aload_n 0, 1) := by decide +kernel
theorem dX8_door_32 : decode cX8_door 32 = .ok (.getfield 31, 3) := by decide +kernel
theorem dX8_door_35 : decode cX8_door 35 = .ok (.invokevirtual 150, 3) := by decide +kernel
theorem dX8_door_38 : decode cX8_door 38 = .ok (.aload_n 0, 1) := by decide +kernel
theorem dX8_door_39 : decode cX8_door 39 = .ok (.getfield 31, 3) := by decide +kernel
theorem dX8_door_42 : decode cX8_door 42 = .ok (.iload_n 1, 1) := by decide +kernel
theorem dX8_door_43 : decode cX8_door 43 = .ok (.invokevirtual 167, 3) := by decide +kernel
theorem dX8_door_46 : decode cX8_door 46 = .ok (.ireturn, 1) := by decide +kernel
theorem dX8_pass_0 : decode cX8_pass 0 = .ok (.iload_n 1, 1) := by decide +kernel
theorem dX8_pass_1 : decode cX8_pass 1 = .ok (.iconst 1, 1) := by decide +kernel
theorem dX8_pass_2 : decode cX8_pass 2 = .ok (.if_icmp .lt 9, 3) := by decide +kernel
theorem dX8_pass_5 : decode cX8_pass 5 = .ok (.iload_n 1, 1) := by decide +kernel
theorem dX8_pass_6 : decode cX8_pass 6 = .ok (.bipush 40, 2) := by decide +kernel
theorem dX8_pass_8 : decode cX8_pass 8 = .ok (.if_icmp .le 5, 3) := by decide +kernel
theorem dX8_pass_11 : decode cX8_pass 11 = .ok (.iconst (-1), 1) := by decide +kernel
theorem dX8_pass_12 : decode cX8_pass 12 = .ok (.ireturn, 1) := by decide +kernel
theorem dX8_pass_13 : decode cX8_pass 13 = .ok (.aload_n 0, 1) := by decide +kernel
theorem dX8_pass_14 : decode cX8_pass 14 = .ok (.getfield 31, 3) := by decide +kernel
theorem dX8_pass_17 : decode cX8_pass 17 = .ok (.getfield 170, 3) := by decide +kernel
theorem dX8_pass_20 : decode cX8_pass 20 = .ok (.iload_n 1, 1) := by decide +kernel
theorem dX8_pass_21 : decode cX8_pass 21 = .ok (.iadd, 1) := by decide +kernel
theorem dX8_pass_22 : decode cX8_pass 22 = .ok (.sipush 999, 3) := by decide +kernel
theorem dX8_pass_25 : decode cX8_pass 25 = .ok (.if_icmp .le 6, 3) := by decide +kernel
theorem dX8_pass_28 : decode cX8_pass 28 = .ok (.bipush (-2), 2) := by decide +kernel
theorem dX8_pass_30 : decode cX8_pass 30 = .ok (.ireturn, 1) := by decide +kernel
theorem dX8_pass_31 : decode cX8_pass 31 = .ok (.aload_n 0, 1) := by decide +kernel
theorem dX8_pass_32 : decode cX8_pass 32 = .ok (.getfield 40, 3) := by decide +kernel
theorem dX8_pass_35 : decode cX8_pass 35 = .ok (.aload_n 0, 1) := by decide +kernel
theorem dX8_pass_36 : decode cX8_pass 36 = .ok (.getfield 31, 3) := by decide +kernel
theorem dX8_pass_39 : decode cX8_pass 39 = .ok (.invokevirtual 150, 3) := by decide +kernel
theorem dX8_pass_42 : decode cX8_pass 42 = .ok (.iconst 0, 1) := by decide +kernel
theorem dX8_pass_43 : decode cX8_pass 43 = .ok (.istore_n 2, 1) := by decide +kernel
theorem dX8_pass_44 : decode cX8_pass 44 = .ok (.iconst 0, 1) := by decide +kernel
theorem dX8_pass_45 : decode cX8_pass 45 = .ok (.istore_n 3, 1) := by decide +kernel
theorem dX8_pass_46 : decode cX8_pass 46 = .ok (.iload_n 3, 1) := by decide +kernel
theorem dX8_pass_47 : decode cX8_pass 47 = .ok (.iload_n 1, 1) := by decide +kernel
theorem dX8_pass_48 : decode cX8_pass 48 = .ok (.if_icmp .ge 19, 3) := by decide +kernel
theorem dX8_pass_51 : decode cX8_pass 51 = .ok (.iload_n 2, 1) := by decide +kernel
theorem dX8_pass_52 : decode cX8_pass 52 = .ok (.aload_n 0, 1) := by decide +kernel
theorem dX8_pass_53 : decode cX8_pass 53 = .ok (.getfield 31, 3) := by decide +kernel
theorem dX8_pass_56 : decode cX8_pass 56 = .ok (.invokevirtual 173, 3) := by decide +kernel
theorem dX8_pass_59 : decode cX8_pass 59 = .ok (.iadd, 1) := by decide +kernel
theorem dX8_pass_60 : decode cX8_pass 60 = .ok (.istore_n 2, 1) := by decide +kernel
theorem dX8_pass_61 : decode cX8_pass 61 = .ok (.iinc 3 1, 3) := by decide +kernel
theorem dX8_pass_64 : decode cX8_pass 64 = .ok (.goto (-18), 3) := by decide +kernel
theorem dX8_pass_67 : decode cX8_pass 67 = .ok (.iload_n 2, 1) := by decide +kernel
theorem dX8_pass_68 : decode cX8_pass 68 = .ok (.ireturn, 1) := by decide +kernel
theorem dX8_undo_0 : decode cX8_undo 0 = .ok (.aload_n 0, 1) := by decide +kernel
theorem dX8_undo_1 : decode cX8_undo 1 = .ok (.getfield 40, 3) := by decide +kernel
theorem dX8_undo_4 : decode cX8_undo 4 = .ok (.getfield 176, 3) := by decide +kernel
theorem dX8_undo_7 : decode cX8_undo 7 = .ok (.ifCond .ne 6, 3) := by decide +kernel
theorem dX8_undo_10 : decode cX8_undo 10 = .ok (.bipush (-2), 2) := by decide +kernel
theorem dX8_undo_12 : decode cX8_undo 12 = .ok (.ireturn, 1) := by decide +kernel
theorem dX8_undo_13 : decode cX8_undo 13 = .ok (.aload_n 0, 1) := by decide +kernel
theorem dX8_undo_14 : decode cX8_undo 14 = .ok (.getfield 40, 3) := by decide +kernel
theorem dX8_undo_17 : decode cX8_undo 17 = .ok (.aload_n 0, 1) := by decide +kernel
theorem dX8_undo_18 : decode cX8_undo 18 = .ok (.getfield 31, 3) := by decide +kernel
theorem dX8_undo_21 : decode cX8_undo 21 = .ok (.invokevirtual 177, 3) := by decide +kernel
theorem dX8_undo_24 : decode cX8_undo 24 = .ok (.aload_n 0, 1) := by decide +kernel
theorem dX8_undo_25 : decode cX8_undo 25 = .ok (.getfield 40, 3) := by decide +kernel
theorem dX8_undo_28 : decode cX8_undo 28 = .ok (.getfield 176, 3) := by decide +kernel
theorem dX8_undo_31 : decode cX8_undo 31 = .ok (.ireturn, 1) := by decide +kernel
theorem dX8_asTold_0 : decode cX8_asTold 0 = .ok (.iload_n 1, 1) := by decide +kernel
theorem dX8_asTold_1 : decode cX8_asTold 1 = .ok (.ifCond .lt 8, 3) := by decide +kernel
theorem dX8_asTold_4 : decode cX8_asTold 4 = .ok (.iload_n 1, 1) := by decide +kernel
theorem dX8_asTold_5 : decode cX8_asTold 5 = .ok (.iconst 1, 1) := by decide +kernel
theorem dX8_asTold_6 : decode cX8_asTold 6 = .ok (.if_icmp .le 5, 3) := by decide +kernel
theorem dX8_asTold_9 : decode cX8_asTold 9 = .ok (.iconst (-1), 1) := by decide +kernel
theorem dX8_asTold_10 : decode cX8_asTold 10 = .ok (.ireturn, 1) := by decide +kernel
theorem dX8_asTold_11 : decode cX8_asTold 11 = .ok (.aload_n 0, 1) := by decide +kernel
theorem dX8_asTold_12 : decode cX8_asTold 12 = .ok (.getfield 50, 3) := by decide +kernel
theorem dX8_asTold_15 : decode cX8_asTold 15 = .ok (.aload_n 0, 1) := by decide +kernel
theorem dX8_asTold_16 : decode cX8_asTold 16 = .ok (.getfield 31, 3) := by decide +kernel
theorem dX8_asTold_19 : decode cX8_asTold 19 = .ok (.invokevirtual 180, 3) := by decide +kernel
theorem dX8_asTold_22 : decode cX8_asTold 22 = .ok (.aload_n 0, 1) := by decide +kernel
theorem dX8_asTold_23 : decode cX8_asTold 23 = .ok (.getfield 50, 3) := by decide +kernel
theorem dX8_asTold_26 : decode cX8_asTold 26 = .ok (.getstatic 183, 3) := by decide +kernel
theorem dX8_asTold_29 : decode cX8_asTold 29 = .ok (.aload_n 0, 1) := by decide +kernel
theorem dX8_asTold_30 : decode cX8_asTold 30 = .ok (.getfield 50, 3) := by decide +kernel
theorem dX8_asTold_33 : decode cX8_asTold 33 = .ok (.invokevirtual 186, 3) := by decide +kernel
theorem dX8_asTold_36 : decode cX8_asTold 36 = .ok (.invokevirtual 189, 3) := by decide +kernel
theorem dX8_asTold_39 : decode cX8_asTold 39 = .ok (.iload_n 1, 1) := by decide +kernel
theorem dX8_asTold_40 : decode cX8_asTold 40 = .ok (.ifCond .ne 13, 3) := by decide +kernel
theorem dX8_asTold_43 : decode cX8_asTold 43 = .ok (.aload_n 0, 1) := by decide +kernel
theorem dX8_asTold_44 : decode cX8_asTold 44 = .ok (.getfield 50, 3) := by decide +kernel
theorem dX8_asTold_47 : decode cX8_asTold 47 = .ok (.getfield 193, 3) := by decide +kernel
theorem dX8_asTold_50 : decode cX8_asTold 50 = .ok (.goto 10, 3) := by decide +kernel
theorem dX8_asTold_53 : decode cX8_asTold 53 = .ok (.aload_n 0, 1) := by decide +kernel
theorem dX8_asTold_54 : decode cX8_asTold 54 = .ok (.getfield 50, 3) := by decide +kernel
theorem dX8_asTold_57 : decode cX8_asTold 57 = .ok (.getfield 196, 3) := by decide +kernel
theorem dX8_asTold_60 : decode cX8_asTold 60 = .ok (.ireturn, 1) := by decide +kernel
theorem dX8_best_0 : decode cX8_best 0 = .ok (.iload_n 1, 1) := by decide +kernel
theorem dX8_best_1 : decode cX8_best 1 = .ok (.bipush (-2), 2) := by decide +kernel
theorem dX8_best_3 : decode cX8_best 3 = .ok (.if_icmp .ge 5, 3) := by decide +kernel
theorem dX8_best_6 : decode cX8_best 6 = .ok (.iconst (-1), 1) := by decide +kernel
theorem dX8_best_7 : decode cX8_best 7 = .ok (.ireturn, 1) := by decide +kernel
theorem dX8_best_8 : decode cX8_best 8 = .ok (.aload_n 0, 1) := by decide +kernel
theorem dX8_best_9 : decode cX8_best 9 = .ok (.getfield 59, 3) := by decide +kernel
theorem dX8_best_12 : decode cX8_best 12 = .ok (.aload_n 0, 1) := by decide +kernel
theorem dX8_best_13 : decode cX8_best 13 = .ok (.getfield 31, 3) := by decide +kernel
theorem dX8_best_16 : decode cX8_best 16 = .ok (.invokevirtual 199, 3) := by decide +kernel
theorem dX8_best_19 : decode cX8_best 19 = .ok (.iload_n 1, 1) := by decide +kernel
theorem dX8_best_20 : decode cX8_best 20 = .ok (.iconst (-1), 1) := by decide +kernel
theorem dX8_best_21 : decode cX8_best 21 = .ok (.if_icmp .ne 11, 3) := by decide +kernel
theorem dX8_best_24 : decode cX8_best 24 = .ok (.aload_n 0, 1) := by decide +kernel
theorem dX8_best_25 : decode cX8_best 25 = .ok (.getfield 59, 3) := by decide +kernel
theorem dX8_best_28 : decode cX8_best 28 = .ok (.getfield 202, 3) := by decide +kernel
theorem dX8_best_31 : decode cX8_best 31 = .ok (.ireturn, 1) := by decide +kernel
theorem dX8_best_32 : decode cX8_best 32 = .ok (.iload_n 1, 1) := by decide +kernel
theorem dX8_best_33 : decode cX8_best 33 = .ok (.bipush (-2), 2) := by decide +kernel
theorem dX8_best_35 : decode cX8_best 35 = .ok (.if_icmp .ne 11, 3) := by decide +kernel
theorem dX8_best_38 : decode cX8_best 38 = .ok (.aload_n 0, 1) := by decide +kernel
theorem dX8_best_39 : decode cX8_best 39 = .ok (.getfield 59, 3) := by decide +kernel
theorem dX8_best_42 : decode cX8_best 42 = .ok (.getfield 203, 3) := by decide +kernel
theorem dX8_best_45 : decode cX8_best 45 = .ok (.ireturn, 1) := by decide +kernel
theorem dX8_best_46 : decode cX8_best 46 = .ok (.aload_n 0, 1) := by decide +kernel
theorem dX8_best_47 : decode cX8_best 47 = .ok (.getfield 59, 3) := by decide +kernel
theorem dX8_best_50 : decode cX8_best 50 = .ok (.getfield 202, 3) := by decide +kernel
theorem dX8_best_53 : decode cX8_best 53 = .ok (.bipush (-4), 2) := by decide +kernel
theorem dX8_best_55 : decode cX8_best 55 = .ok (.if_icmp .eq 26, 3) := by decide +kernel
theorem dX8_best_58 : decode cX8_best 58 = .ok (.aload_n 0, 1) := by decide +kernel
theorem dX8_best_59 : decode cX8_best 59 = .ok (.getfield 23, 3) := by decide +kernel
theorem dX8_best_62 : decode cX8_best 62 = .ok (.iload_n 1, 1) := by decide +kernel
theorem dX8_best_63 : decode cX8_best 63 = .ok (.invokevirtual 113, 3) := by decide +kernel
theorem dX8_best_66 : decode cX8_best 66 = .ok (.ifCond .eq 15, 3) := by decide +kernel
theorem dX8_best_69 : decode cX8_best 69 = .ok (.aload_n 0, 1) := by decide +kernel
theorem dX8_best_70 : decode cX8_best 70 = .ok (.getfield 59, 3) := by decide +kernel
theorem dX8_best_73 : decode cX8_best 73 = .ok (.getfield 204, 3) := by decide +kernel
theorem dX8_best_76 : decode cX8_best 76 = .ok (.iload_n 1, 1) := by decide +kernel
theorem dX8_best_77 : decode cX8_best 77 = .ok (.iaload, 1) := by decide +kernel
theorem dX8_best_78 : decode cX8_best 78 = .ok (.goto 5, 3) := by decide +kernel
theorem dX8_best_81 : decode cX8_best 81 = .ok (.bipush (-4), 2) := by decide +kernel
theorem dX8_best_83 : decode cX8_best 83 = .ok (.ireturn, 1) := by decide +kernel
theorem dX8_last_0 : decode cX8_last 0 = .ok (.aload_n 0, 1) := by decide +kernel
theorem dX8_last_1 : decode cX8_last 1 = .ok (.getfield 59, 3) := by decide +kernel
theorem dX8_last_4 : decode cX8_last 4 = .ok (.aload_n 0, 1) := by decide +kernel
theorem dX8_last_5 : decode cX8_last 5 = .ok (.getfield 31, 3) := by decide +kernel
theorem dX8_last_8 : decode cX8_last 8 = .ok (.invokevirtual 207, 3) := by decide +kernel
theorem dX8_last_11 : decode cX8_last 11 = .ok (.ireturn, 1) := by decide +kernel
theorem dX8_pays_0 : decode cX8_pays 0 = .ok (.aload_n 0, 1) := by decide +kernel
theorem dX8_pays_1 : decode cX8_pays 1 = .ok (.getfield 31, 3) := by decide +kernel
theorem dX8_pays_4 : decode cX8_pays 4 = .ok (.invokevirtual 211, 3) := by decide +kernel
theorem dX8_pays_7 : decode cX8_pays 7 = .ok (.istore_n 1, 1) := by decide +kernel
theorem dX8_pays_8 : decode cX8_pays 8 = .ok (.aload_n 0, 1) := by decide +kernel
theorem dX8_pays_9 : decode cX8_pays 9 = .ok (.getfield 31, 3) := by decide +kernel
theorem dX8_pays_12 : decode cX8_pays 12 = .ok (.iload_n 1, 1) := by decide +kernel
theorem dX8_pays_13 : decode cX8_pays 13 = .ok (.invokevirtual 158, 3) := by decide +kernel
theorem dX8_pays_16 : decode cX8_pays 16 = .ok (.ifCond .ne 6, 3) := by decide +kernel
theorem dX8_pays_19 : decode cX8_pays 19 = .ok (.bipush (-4), 2) := by decide +kernel
theorem dX8_pays_21 : decode cX8_pays 21 = .ok (.ireturn, 1) := by decide +kernel
theorem dX8_pays_22 : decode cX8_pays 22 = .ok (.aload_n 0, 1) := by decide +kernel
theorem dX8_pays_23 : decode cX8_pays 23 = .ok (.getfield 50, 3) := by decide +kernel
theorem dX8_pays_26 : decode cX8_pays 26 = .ok (.aload_n 0, 1) := by decide +kernel
theorem dX8_pays_27 : decode cX8_pays 27 = .ok (.getfield 31, 3) := by decide +kernel
theorem dX8_pays_30 : decode cX8_pays 30 = .ok (.invokevirtual 180, 3) := by decide +kernel
theorem dX8_pays_33 : decode cX8_pays 33 = .ok (.aload_n 0, 1) := by decide +kernel
theorem dX8_pays_34 : decode cX8_pays 34 = .ok (.getfield 50, 3) := by decide +kernel
theorem dX8_pays_37 : decode cX8_pays 37 = .ok (.getstatic 183, 3) := by decide +kernel
theorem dX8_pays_40 : decode cX8_pays 40 = .ok (.aload_n 0, 1) := by decide +kernel
theorem dX8_pays_41 : decode cX8_pays 41 = .ok (.getfield 50, 3) := by decide +kernel
theorem dX8_pays_44 : decode cX8_pays 44 = .ok (.invokevirtual 186, 3) := by decide +kernel
theorem dX8_pays_47 : decode cX8_pays 47 = .ok (.invokevirtual 189, 3) := by decide +kernel
theorem dX8_pays_50 : decode cX8_pays 50 = .ok (.aload_n 0, 1) := by decide +kernel
theorem dX8_pays_51 : decode cX8_pays 51 = .ok (.getfield 50, 3) := by decide +kernel
theorem dX8_pays_54 : decode cX8_pays 54 = .ok (.getfield 193, 3) := by decide +kernel
theorem dX8_pays_57 : decode cX8_pays 57 = .ok (.istore_n 2, 1) := by decide +kernel
theorem dX8_pays_58 : decode cX8_pays 58 = .ok (.aload_n 0, 1) := by decide +kernel
theorem dX8_pays_59 : decode cX8_pays 59 = .ok (.getfield 50, 3) := by decide +kernel
theorem dX8_pays_62 : decode cX8_pays 62 = .ok (.aload_n 0, 1) := by decide +kernel
theorem dX8_pays_63 : decode cX8_pays 63 = .ok (.getfield 31, 3) := by decide +kernel
theorem dX8_pays_66 : decode cX8_pays 66 = .ok (.invokevirtual 180, 3) := by decide +kernel
theorem dX8_pays_69 : decode cX8_pays 69 = .ok (.aload_n 0, 1) := by decide +kernel
theorem dX8_pays_70 : decode cX8_pays 70 = .ok (.getfield 50, 3) := by decide +kernel
theorem dX8_pays_73 : decode cX8_pays 73 = .ok (.getfield 214, 3) := by decide +kernel
theorem dX8_pays_76 : decode cX8_pays 76 = .ok (.iload_n 1, 1) := by decide +kernel
theorem dX8_pays_77 : decode cX8_pays 77 = .ok (.invokevirtual 161, 3) := by decide +kernel
theorem dX8_pays_80 : decode cX8_pays 80 = .ok (.pop, 1) := by decide +kernel
theorem dX8_pays_81 : decode cX8_pays 81 = .ok (.aload_n 0, 1) := by decide +kernel
theorem dX8_pays_82 : decode cX8_pays 82 = .ok (.getfield 50, 3) := by decide +kernel
theorem dX8_pays_85 : decode cX8_pays 85 = .ok (.getstatic 183, 3) := by decide +kernel
theorem dX8_pays_88 : decode cX8_pays 88 = .ok (.aload_n 0, 1) := by decide +kernel
theorem dX8_pays_89 : decode cX8_pays 89 = .ok (.getfield 50, 3) := by decide +kernel
theorem dX8_pays_92 : decode cX8_pays 92 = .ok (.invokevirtual 186, 3) := by decide +kernel
theorem dX8_pays_95 : decode cX8_pays 95 = .ok (.invokevirtual 189, 3) := by decide +kernel
theorem dX8_pays_98 : decode cX8_pays 98 = .ok (.iload_n 2, 1) := by decide +kernel
theorem dX8_pays_99 : decode cX8_pays 99 = .ok (.bipush (-4), 2) := by decide +kernel
theorem dX8_pays_101 : decode cX8_pays 101 = .ok (.if_icmp .eq 15, 3) := by decide +kernel
theorem dX8_pays_104 : decode cX8_pays 104 = .ok (.aload_n 0, 1) := by decide +kernel
theorem dX8_pays_105 : decode cX8_pays 105 = .ok (.getfield 50, 3) := by decide +kernel
theorem dX8_pays_108 : decode cX8_pays 108 = .ok (.getfield 193, 3) := by decide +kernel
theorem dX8_pays_111 : decode cX8_pays 111 = .ok (.bipush (-4), 2) := by decide +kernel
theorem dX8_pays_113 : decode cX8_pays 113 = .ok (.if_icmp .ne 6, 3) := by decide +kernel
theorem dX8_pays_116 : decode cX8_pays 116 = .ok (.bipush (-4), 2) := by decide +kernel
theorem dX8_pays_118 : decode cX8_pays 118 = .ok (.ireturn, 1) := by decide +kernel
theorem dX8_pays_119 : decode cX8_pays 119 = .ok (.iload_n 2, 1) := by decide +kernel
theorem dX8_pays_120 : decode cX8_pays 120 = .ok (.aload_n 0, 1) := by decide +kernel
theorem dX8_pays_121 : decode cX8_pays 121 = .ok (.getfield 50, 3) := by decide +kernel
theorem dX8_pays_124 : decode cX8_pays 124 = .ok (.getfield 193, 3) := by decide +kernel
theorem dX8_pays_127 : decode cX8_pays 127 = .ok (.isub, 1) := by decide +kernel
theorem dX8_pays_128 : decode cX8_pays 128 = .ok (.bipush 100, 2) := by decide +kernel
theorem dX8_pays_130 : decode cX8_pays 130 = .ok (.iadd, 1) := by decide +kernel
theorem dX8_pays_131 : decode cX8_pays 131 = .ok (.ireturn, 1) := by decide +kernel
theorem dX8_women_0 : decode cX8_women 0 = .ok (.iload_n 1, 1) := by decide +kernel
theorem dX8_women_1 : decode cX8_women 1 = .ok (.iconst 1, 1) := by decide +kernel
theorem dX8_women_2 : decode cX8_women 2 = .ok (.if_icmp .lt 8, 3) := by decide +kernel
theorem dX8_women_5 : decode cX8_women 5 = .ok (.iload_n 1, 1) := by decide +kernel
theorem dX8_women_6 : decode cX8_women 6 = .ok (.iconst 3, 1) := by decide +kernel
theorem dX8_women_7 : decode cX8_women 7 = .ok (.if_icmp .le 5, 3) := by decide +kernel
theorem dX8_women_10 : decode cX8_women 10 = .ok (.iconst (-1), 1) := by decide +kernel
theorem dX8_women_11 : decode cX8_women 11 = .ok (.ireturn, 1) := by decide +kernel
theorem dX8_women_12 : decode cX8_women 12 = .ok (.aload_n 0, 1) := by decide +kernel
theorem dX8_women_13 : decode cX8_women 13 = .ok (.getfield 50, 3) := by decide +kernel
theorem dX8_women_16 : decode cX8_women 16 = .ok (.getfield 214, 3) := by decide +kernel
theorem dX8_women_19 : decode cX8_women 19 = .ok (.iload_n 1, 1) := by decide +kernel
theorem dX8_women_20 : decode cX8_women 20 = .ok (.invokevirtual 97, 3) := by decide +kernel
theorem dX8_women_23 : decode cX8_women 23 = .ok (.aload_n 0, 1) := by decide +kernel
theorem dX8_women_24 : decode cX8_women 24 = .ok (.getfield 50, 3) := by decide +kernel
theorem dX8_women_27 : decode cX8_women 27 = .ok (.getstatic 183, 3) := by decide +kernel
theorem dX8_women_30 : decode cX8_women 30 = .ok (.aload_n 0, 1) := by decide +kernel
theorem dX8_women_31 : decode cX8_women 31 = .ok (.getfield 50, 3) := by decide +kernel
theorem dX8_women_34 : decode cX8_women 34 = .ok (.invokevirtual 186, 3) := by decide +kernel
theorem dX8_women_37 : decode cX8_women 37 = .ok (.invokevirtual 189, 3) := by decide +kernel
theorem dX8_women_40 : decode cX8_women 40 = .ok (.aload_n 0, 1) := by decide +kernel
theorem dX8_women_41 : decode cX8_women 41 = .ok (.getfield 50, 3) := by decide +kernel
theorem dX8_women_44 : decode cX8_women 44 = .ok (.getfield 193, 3) := by decide +kernel
theorem dX8_women_47 : decode cX8_women 47 = .ok (.ireturn, 1) := by decide +kernel
theorem dX8_seen_0 : decode cX8_seen 0 = .ok (.aload_n 0, 1) := by decide +kernel
theorem dX8_seen_1 : decode cX8_seen 1 = .ok (.getfield 23, 3) := by decide +kernel
theorem dX8_seen_4 : decode cX8_seen 4 = .ok (.iload_n 1, 1) := by decide +kernel
theorem dX8_seen_5 : decode cX8_seen 5 = .ok (.invokevirtual 113, 3) := by decide +kernel
theorem dX8_seen_8 : decode cX8_seen 8 = .ok (.ifCond .eq 23, 3) := by decide +kernel
theorem dX8_seen_11 : decode cX8_seen 11 = .ok (.iload_n 2, 1) := by decide +kernel
theorem dX8_seen_12 : decode cX8_seen 12 = .ok (.iconst 1, 1) := by decide +kernel
theorem dX8_seen_13 : decode cX8_seen 13 = .ok (.if_icmp .lt 18, 3) := by decide +kernel
theorem dX8_seen_16 : decode cX8_seen 16 = .ok (.iload_n 2, 1) := by decide +kernel
theorem dX8_seen_17 : decode cX8_seen 17 = .ok (.bipush 20, 2) := by decide +kernel
theorem dX8_seen_19 : decode cX8_seen 19 = .ok (.if_icmp .gt 12, 3) := by decide +kernel
theorem dX8_seen_22 : decode cX8_seen 22 = .ok (.iload_n 3, 1) := by decide +kernel
theorem dX8_seen_23 : decode cX8_seen 23 = .ok (.ifCond .lt 8, 3) := by decide +kernel
theorem dX8_seen_26 : decode cX8_seen 26 = .ok (.iload_n 3, 1) := by decide +kernel
theorem dX8_seen_27 : decode cX8_seen 27 = .ok (.iconst 1, 1) := by decide +kernel
theorem dX8_seen_28 : decode cX8_seen 28 = .ok (.if_icmp .le 5, 3) := by decide +kernel
theorem dX8_seen_31 : decode cX8_seen 31 = .ok (.iconst (-1), 1) := by decide +kernel
theorem dX8_seen_32 : decode cX8_seen 32 = .ok (.ireturn, 1) := by decide +kernel
theorem dX8_seen_33 : decode cX8_seen 33 = .ok (.aload_n 0, 1) := by decide +kernel
theorem dX8_seen_34 : decode cX8_seen 34 = .ok (.getfield 66, 3) := by decide +kernel
theorem dX8_seen_37 : decode cX8_seen 37 = .ok (.iload_n 1, 1) := by decide +kernel
theorem dX8_seen_38 : decode cX8_seen 38 = .ok (.iload_n 2, 1) := by decide +kernel
theorem dX8_seen_39 : decode cX8_seen 39 = .ok (.iload_n 3, 1) := by decide +kernel
theorem dX8_seen_40 : decode cX8_seen 40 = .ok (.iconst 1, 1) := by decide +kernel
theorem dX8_seen_41 : decode cX8_seen 41 = .ok (.if_icmp .ne 7, 3) := by decide +kernel
theorem dX8_seen_44 : decode cX8_seen 44 = .ok (.iconst 1, 1) := by decide +kernel
theorem dX8_seen_45 : decode cX8_seen 45 = .ok (.goto 4, 3) := by decide +kernel
theorem dX8_seen_48 : decode cX8_seen 48 = .ok (.iconst 0, 1) := by decide +kernel
theorem dX8_seen_49 : decode cX8_seen 49 = .ok (.invokevirtual 217, 3) := by decide +kernel
theorem dX8_seen_52 : decode cX8_seen 52 = .ok (.ifCond .eq 13, 3) := by decide +kernel
theorem dX8_seen_55 : decode cX8_seen 55 = .ok (.aload_n 0, 1) := by decide +kernel
theorem dX8_seen_56 : decode cX8_seen 56 = .ok (.getfield 66, 3) := by decide +kernel
theorem dX8_seen_59 : decode cX8_seen 59 = .ok (.getfield 110, 3) := by decide +kernel
theorem dX8_seen_62 : decode cX8_seen 62 = .ok (.goto 5, 3) := by decide +kernel
theorem dX8_seen_65 : decode cX8_seen 65 = .ok (.bipush (-3), 2) := by decide +kernel
theorem dX8_seen_67 : decode cX8_seen 67 = .ok (.ireturn, 1) := by decide +kernel
theorem dX8_forget_0 : decode cX8_forget 0 = .ok (.aload_n 0, 1) := by decide +kernel
theorem dX8_forget_1 : decode cX8_forget 1 = .ok (.getfield 66, 3) := by decide +kernel
theorem dX8_forget_4 : decode cX8_forget 4 = .ok (.getfield 110, 3) := by decide +kernel
theorem dX8_forget_7 : decode cX8_forget 7 = .ok (.istore_n 1, 1) := by decide +kernel
theorem dX8_forget_8 : decode cX8_forget 8 = .ok (.aload_n 0, 1) := by decide +kernel
theorem dX8_forget_9 : decode cX8_forget 9 = .ok (.getfield 66, 3) := by decide +kernel
theorem dX8_forget_12 : decode cX8_forget 12 = .ok (.iconst 0, 1) := by decide +kernel
theorem dX8_forget_13 : decode cX8_forget 13 = .ok (.putfield 110, 3) := by decide +kernel
theorem dX8_forget_16 : decode cX8_forget 16 = .ok (.iload_n 1, 1) := by decide +kernel
theorem dX8_forget_17 : decode cX8_forget 17 = .ok (.ireturn, 1) := by decide +kernel
theorem dX8_kinds_0 : decode cX8_kinds 0 = .ok (.aload_n 0, 1) := by decide +kernel
theorem dX8_kinds_1 : decode cX8_kinds 1 = .ok (.getfield 23, 3) := by decide +kernel
theorem dX8_kinds_4 : decode cX8_kinds 4 = .ok (.iload_n 1, 1) := by decide +kernel
theorem dX8_kinds_5 : decode cX8_kinds 5 = .ok (.invokevirtual 113, 3) := by decide +kernel
theorem dX8_kinds_8 : decode cX8_kinds 8 = .ok (.ifCond .ne 5, 3) := by decide +kernel
theorem dX8_kinds_11 : decode cX8_kinds 11 = .ok (.iconst (-1), 1) := by decide +kernel
theorem dX8_kinds_12 : decode cX8_kinds 12 = .ok (.ireturn, 1) := by decide +kernel
theorem dX8_kinds_13 : decode cX8_kinds 13 = .ok (.iconst 0, 1) := by decide +kernel
theorem dX8_kinds_14 : decode cX8_kinds 14 = .ok (.istore_n 2, 1) := by decide +kernel
theorem dX8_kinds_15 : decode cX8_kinds 15 = .ok (.iconst 0, 1) := by decide +kernel
theorem dX8_kinds_16 : decode cX8_kinds 16 = .ok (.istore_n 3, 1) := by decide +kernel
theorem dX8_kinds_17 : decode cX8_kinds 17 = .ok (.iload_n 3, 1) := by decide +kernel
theorem dX8_kinds_18 : decode cX8_kinds 18 = .ok (.iconst 4, 1) := by decide +kernel
theorem dX8_kinds_19 : decode cX8_kinds 19 = .ok (.if_icmp .ge 36, 3) := by decide +kernel
theorem dX8_kinds_22 : decode cX8_kinds 22 = .ok (.aload_n 0, 1) := by decide +kernel
theorem dX8_kinds_23 : decode cX8_kinds 23 = .ok (.getfield 66, 3) := by decide +kernel
theorem dX8_kinds_26 : decode cX8_kinds 26 = .ok (.iload_n 1, 1) := by decide +kernel
theorem dX8_kinds_27 : decode cX8_kinds 27 = .ok (.iload_n 3, 1) := by decide +kernel
theorem dX8_kinds_28 : decode cX8_kinds 28 = .ok (.aload_n 0, 1) := by decide +kernel
theorem dX8_kinds_29 : decode cX8_kinds 29 = .ok (.getfield 23, 3) := by decide +kernel
theorem dX8_kinds_32 : decode cX8_kinds 32 = .ok (.getfield 220, 3) := by decide +kernel
theorem dX8_kinds_35 : decode cX8_kinds 35 = .ok (.iload_n 1, 1) := by decide +kernel
theorem dX8_kinds_36 : decode cX8_kinds 36 = .ok (.iaload, 1) := by decide +kernel
theorem dX8_kinds_37 : decode cX8_kinds 37 = .ok (.invokevirtual 223, 3) := by decide +kernel
theorem dX8_kinds_40 : decode cX8_kinds 40 = .ok (.ifCond .eq 9, 3) := by decide +kernel
theorem dX8_kinds_43 : decode cX8_kinds 43 = .ok (.iload_n 2, 1) := by decide +kernel
theorem dX8_kinds_44 : decode cX8_kinds 44 = .ok (.iconst 1, 1) := by decide +kernel
theorem dX8_kinds_45 : decode cX8_kinds 45 = .ok (.iload_n 3, 1) := by decide +kernel
theorem dX8_kinds_46 : decode cX8_kinds 46 = .ok (.ishl, 1) := by decide +kernel
theorem dX8_kinds_47 : decode cX8_kinds 47 = .ok (.ior, 1) := by decide +kernel
theorem dX8_kinds_48 : decode cX8_kinds 48 = .ok (.istore_n 2, 1) := by decide +kernel
theorem dX8_kinds_49 : decode cX8_kinds 49 = .ok (.iinc 3 1, 3) := by decide +kernel
theorem dX8_kinds_52 : decode cX8_kinds 52 = .ok (.goto (-35), 3) := by decide +kernel
theorem dX8_kinds_55 : decode cX8_kinds 55 = .ok (.iload_n 2, 1) := by decide +kernel
theorem dX8_kinds_56 : decode cX8_kinds 56 = .ok (.ireturn, 1) := by decide +kernel
theorem dX8_takes_0 : decode cX8_takes 0 = .ok (.aload_n 0, 1) := by decide +kernel
theorem dX8_takes_1 : decode cX8_takes 1 = .ok (.getfield 23, 3) := by decide +kernel
theorem dX8_takes_4 : decode cX8_takes 4 = .ok (.iload_n 1, 1) := by decide +kernel
theorem dX8_takes_5 : decode cX8_takes 5 = .ok (.invokevirtual 113, 3) := by decide +kernel
theorem dX8_takes_8 : decode cX8_takes 8 = .ok (.ifCond .eq 12, 3) := by decide +kernel
theorem dX8_takes_11 : decode cX8_takes 11 = .ok (.iload_n 2, 1) := by decide +kernel
theorem dX8_takes_12 : decode cX8_takes 12 = .ok (.ifCond .lt 8, 3) := by decide +kernel
theorem dX8_takes_15 : decode cX8_takes 15 = .ok (.iload_n 2, 1) := by decide +kernel
theorem dX8_takes_16 : decode cX8_takes 16 = .ok (.iconst 1, 1) := by decide +kernel
theorem dX8_takes_17 : decode cX8_takes 17 = .ok (.if_icmp .le 5, 3) := by decide +kernel
theorem dX8_takes_20 : decode cX8_takes 20 = .ok (.iconst (-1), 1) := by decide +kernel
theorem dX8_takes_21 : decode cX8_takes 21 = .ok (.ireturn, 1) := by decide +kernel
theorem dX8_takes_22 : decode cX8_takes 22 = .ok (.iconst 0, 1) := by decide +kernel
theorem dX8_takes_23 : decode cX8_takes 23 = .ok (.istore_n 3, 1) := by decide +kernel
theorem dX8_takes_24 : decode cX8_takes 24 = .ok (.bipush (-4), 2) := by decide +kernel
theorem dX8_takes_26 : decode cX8_takes 26 = .ok (.istore 4, 2) := by decide +kernel
theorem dX8_takes_28 : decode cX8_takes 28 = .ok (.bipush 12, 2) := by decide +kernel
theorem dX8_takes_30 : decode cX8_takes 30 = .ok (.istore 5, 2) := by decide +kernel
theorem dX8_takes_32 : decode cX8_takes 32 = .ok (.iload 5, 2) := by decide +kernel
theorem dX8_takes_34 : decode cX8_takes 34 = .ok (.iconst 1, 1) := by decide +kernel
theorem dX8_takes_35 : decode cX8_takes 35 = .ok (.if_icmp .lt 38, 3) := by decide +kernel
theorem dX8_takes_38 : decode cX8_takes 38 = .ok (.aload_n 0, 1) := by decide +kernel
theorem dX8_takes_39 : decode cX8_takes 39 = .ok (.getfield 66, 3) := by decide +kernel
theorem dX8_takes_42 : decode cX8_takes 42 = .ok (.iload_n 1, 1) := by decide +kernel
theorem dX8_takes_43 : decode cX8_takes 43 = .ok (.aload_n 0, 1) := by decide +kernel
theorem dX8_takes_44 : decode cX8_takes 44 = .ok (.getfield 23, 3) := by decide +kernel
theorem dX8_takes_47 : decode cX8_takes 47 = .ok (.getfield 117, 3) := by decide +kernel
theorem dX8_takes_50 : decode cX8_takes 50 = .ok (.iload_n 1, 1) := by decide +kernel
theorem dX8_takes_51 : decode cX8_takes 51 = .ok (.iaload, 1) := by decide +kernel
theorem dX8_takes_52 : decode cX8_takes 52 = .ok (.iload 5, 2) := by decide +kernel
theorem dX8_takes_54 : decode cX8_takes 54 = .ok (.invokevirtual 223, 3) := by decide +kernel
theorem dX8_takes_57 : decode cX8_takes 57 = .ok (.ifCond .eq 10, 3) := by decide +kernel
theorem dX8_takes_60 : decode cX8_takes 60 = .ok (.iinc 3 1, 3) := by decide +kernel
theorem dX8_takes_63 : decode cX8_takes 63 = .ok (.iload 5, 2) := by decide +kernel
theorem dX8_takes_65 : decode cX8_takes 65 = .ok (.istore 4, 2) := by decide +kernel
theorem dX8_takes_67 : decode cX8_takes 67 = .ok (.iinc 5 (-1), 3) := by decide +kernel
theorem dX8_takes_70 : decode cX8_takes 70 = .ok (.goto (-38), 3) := by decide +kernel
theorem dX8_takes_73 : decode cX8_takes 73 = .ok (.iload_n 2, 1) := by decide +kernel
theorem dX8_takes_74 : decode cX8_takes 74 = .ok (.ifCond .ne 7, 3) := by decide +kernel
theorem dX8_takes_77 : decode cX8_takes 77 = .ok (.iload_n 3, 1) := by decide +kernel
theorem dX8_takes_78 : decode cX8_takes 78 = .ok (.goto 5, 3) := by decide +kernel
theorem dX8_takes_81 : decode cX8_takes 81 = .ok (.iload 4, 2) := by decide +kernel
theorem dX8_takes_83 : decode cX8_takes 83 = .ok (.ireturn, 1) := by decide +kernel
theorem dX8_must_0 : decode cX8_must 0 = .ok (.iload_n 1, 1) := by decide +kernel
theorem dX8_must_1 : decode cX8_must 1 = .ok (.ifCond .lt 28, 3) := by decide +kernel
theorem dX8_must_4 : decode cX8_must 4 = .ok (.iload_n 1, 1) := by decide +kernel
theorem dX8_must_5 : decode cX8_must 5 = .ok (.bipush 6, 2) := by decide +kernel
theorem dX8_must_7 : decode cX8_must 7 = .ok (.if_icmp .gt 22, 3) := by decide +kernel
theorem dX8_must_10 : decode cX8_must 10 = .ok (.iload_n 2, 1) := by decide +kernel
theorem dX8_must_11 : decode cX8_must 11 = .ok (.ifCond .lt 18, 3) := by decide +kernel
theorem dX8_must_14 : decode cX8_must 14 = .ok (.iload_n 2, 1) := by decide +kernel
theorem dX8_must_15 : decode cX8_must 15 = .ok (.bipush 10, 2) := by decide +kernel
theorem dX8_must_17 : decode cX8_must 17 = .ok (.if_icmp .gt 12, 3) := by decide +kernel
theorem dX8_must_20 : decode cX8_must 20 = .ok (.iload_n 3, 1) := by decide +kernel
theorem dX8_must_21 : decode cX8_must 21 = .ok (.ifCond .lt 8, 3) := by decide +kernel
theorem dX8_must_24 : decode cX8_must 24 = .ok (.iload_n 3, 1) := by decide +kernel
theorem dX8_must_25 : decode cX8_must 25 = .ok (.iconst 1, 1) := by decide +kernel
theorem dX8_must_26 : decode cX8_must 26 = .ok (.if_icmp .le 5, 3) := by decide +kernel
theorem dX8_must_29 : decode cX8_must 29 = .ok (.iconst (-1), 1) := by decide +kernel
theorem dX8_must_30 : decode cX8_must 30 = .ok (.ireturn, 1) := by decide +kernel
theorem dX8_must_31 : decode cX8_must 31 = .ok (.aload_n 0, 1) := by decide +kernel
theorem dX8_must_32 : decode cX8_must 32 = .ok (.getfield 31, 3) := by decide +kernel
theorem dX8_must_35 : decode cX8_must 35 = .ok (.iconst 2, 1) := by decide +kernel
theorem dX8_must_36 : decode cX8_must 36 = .ok (.invokevirtual 227, 3) := by decide +kernel
theorem dX8_must_39 : decode cX8_must 39 = .ok (.istore 4, 2) := by decide +kernel
theorem dX8_must_41 : decode cX8_must 41 = .ok (.iload 4, 2) := by decide +kernel
theorem dX8_must_43 : decode cX8_must 43 = .ok (.iload_n 1, 1) := by decide +kernel
theorem dX8_must_44 : decode cX8_must 44 = .ok (.iload_n 2, 1) := by decide +kernel
theorem dX8_must_45 : decode cX8_must 45 = .ok (.invokestatic 230, 3) := by decide +kernel
theorem dX8_must_48 : decode cX8_must 48 = .ok (.istore 5, 2) := by decide +kernel
theorem dX8_must_50 : decode cX8_must 50 = .ok (.bipush 10, 2) := by decide +kernel
theorem dX8_must_52 : decode cX8_must 52 = .ok (.iload 4, 2) := by decide +kernel
theorem dX8_must_54 : decode cX8_must 54 = .ok (.invokestatic 236, 3) := by decide +kernel
theorem dX8_must_57 : decode cX8_must 57 = .ok (.istore 6, 2) := by decide +kernel
theorem dX8_must_59 : decode cX8_must 59 = .ok (.iload 5, 2) := by decide +kernel
theorem dX8_must_61 : decode cX8_must 61 = .ok (.iload 6, 2) := by decide +kernel
theorem dX8_must_63 : decode cX8_must 63 = .ok (.invokestatic 239, 3) := by decide +kernel
theorem dX8_must_66 : decode cX8_must 66 = .ok (.istore 7, 2) := by decide +kernel
theorem dX8_must_68 : decode cX8_must 68 = .ok (.iload 7, 2) := by decide +kernel
theorem dX8_must_70 : decode cX8_must 70 = .ok (.ifCond .ne 6, 3) := by decide +kernel
theorem dX8_must_73 : decode cX8_must 73 = .ok (.bipush (-4), 2) := by decide +kernel
theorem dX8_must_75 : decode cX8_must 75 = .ok (.ireturn, 1) := by decide +kernel
theorem dX8_must_76 : decode cX8_must 76 = .ok (.iload_n 3, 1) := by decide +kernel
theorem dX8_must_77 : decode cX8_must 77 = .ok (.ifCond .ne 8, 3) := by decide +kernel
theorem dX8_must_80 : decode cX8_must 80 = .ok (.iload 5, 2) := by decide +kernel
theorem dX8_must_82 : decode cX8_must 82 = .ok (.goto 5, 3) := by decide +kernel
theorem dX8_must_85 : decode cX8_must 85 = .ok (.iload 6, 2) := by decide +kernel
theorem dX8_must_87 : decode cX8_must 87 = .ok (.iload 7, 2) := by decide +kernel
theorem dX8_must_89 : decode cX8_must 89 = .ok (.idiv, 1) := by decide +kernel
theorem dX8_must_90 : decode cX8_must 90 = .ok (.ireturn, 1) := by decide +kernel
theorem dX8_morning_0 : decode cX8_morning 0 = .ok (.iload_n 1, 1) := by decide +kernel
theorem dX8_morning_1 : decode cX8_morning 1 = .ok (.ifCond .lt 30, 3) := by decide +kernel
theorem dX8_morning_4 : decode cX8_morning 4 = .ok (.iload_n 1, 1) := by decide +kernel
theorem dX8_morning_5 : decode cX8_morning 5 = .ok (.sipush 9999, 3) := by decide +kernel
theorem dX8_morning_8 : decode cX8_morning 8 = .ok (.if_icmp .gt 23, 3) := by decide +kernel
theorem dX8_morning_11 : decode cX8_morning 11 = .ok (.iload_n 2, 1) := by decide +kernel
theorem dX8_morning_12 : decode cX8_morning 12 = .ok (.iconst 1, 1) := by decide +kernel
theorem dX8_morning_13 : decode cX8_morning 13 = .ok (.if_icmp .lt 18, 3) := by decide +kernel
theorem dX8_morning_16 : decode cX8_morning 16 = .ok (.iload_n 2, 1) := by decide +kernel
theorem dX8_morning_17 : decode cX8_morning 17 = .ok (.bipush 60, 2) := by decide +kernel
theorem dX8_morning_19 : decode cX8_morning 19 = .ok (.if_icmp .gt 12, 3) := by decide +kernel
theorem dX8_morning_22 : decode cX8_morning 22 = .ok (.iload_n 3, 1) := by decide +kernel
theorem dX8_morning_23 : decode cX8_morning 23 = .ok (.ifCond .lt 8, 3) := by decide +kernel
theorem dX8_morning_26 : decode cX8_morning 26 = .ok (.iload_n 3, 1) := by decide +kernel
theorem dX8_morning_27 : decode cX8_morning 27 = .ok (.iconst 1, 1) := by decide +kernel
theorem dX8_morning_28 : decode cX8_morning 28 = .ok (.if_icmp .le 5, 3) := by decide +kernel
theorem dX8_morning_31 : decode cX8_morning 31 = .ok (.iconst (-1), 1) := by decide +kernel
theorem dX8_morning_32 : decode cX8_morning 32 = .ok (.ireturn, 1) := by decide +kernel
theorem dX8_morning_33 : decode cX8_morning 33 = .ok (.aload_n 0, 1) := by decide +kernel
theorem dX8_morning_34 : decode cX8_morning 34 = .ok (.getfield 50, 3) := by decide +kernel
theorem dX8_morning_37 : decode cX8_morning 37 = .ok (.aload_n 0, 1) := by decide +kernel
theorem dX8_morning_38 : decode cX8_morning 38 = .ok (.getfield 31, 3) := by decide +kernel
theorem dX8_morning_41 : decode cX8_morning 41 = .ok (.invokevirtual 180, 3) := by decide +kernel
theorem dX8_morning_44 : decode cX8_morning 44 = .ok (.aload_n 0, 1) := by decide +kernel
theorem dX8_morning_45 : decode cX8_morning 45 = .ok (.getfield 50, 3) := by decide +kernel
theorem dX8_morning_48 : decode cX8_morning 48 = .ok (.iload_n 1, 1) := by decide +kernel
theorem dX8_morning_49 : decode cX8_morning 49 = .ok (.iload_n 2, 1) := by decide +kernel
theorem dX8_morning_50 : decode cX8_morning 50 = .ok (.invokevirtual 242, 3) := by decide +kernel
theorem dX8_morning_53 : decode cX8_morning 53 = .ok (.iload_n 3, 1) := by decide +kernel
theorem dX8_morning_54 : decode cX8_morning 54 = .ok (.ifCond .ne 16, 3) := by decide +kernel
theorem dX8_morning_57 : decode cX8_morning 57 = .ok (.aload_n 0, 1) := by decide +kernel
theorem dX8_morning_58 : decode cX8_morning 58 = .ok (.getfield 50, 3) := by decide +kernel
theorem dX8_morning_61 : decode cX8_morning 61 = .ok (.getfield 214, 3) := by decide +kernel
theorem dX8_morning_64 : decode cX8_morning 64 = .ok (.invokevirtual 246, 3) := by decide +kernel
theorem dX8_morning_67 : decode cX8_morning 67 = .ok (.goto 10, 3) := by decide +kernel
theorem dX8_morning_70 : decode cX8_morning 70 = .ok (.aload_n 0, 1) := by decide +kernel
theorem dX8_morning_71 : decode cX8_morning 71 = .ok (.getfield 50, 3) := by decide +kernel
theorem dX8_morning_74 : decode cX8_morning 74 = .ok (.getfield 196, 3) := by decide +kernel
theorem dX8_morning_77 : decode cX8_morning 77 = .ok (.ireturn, 1) := by decide +kernel
theorem dX8_keep_0 : decode cX8_keep 0 = .ok (.aload_n 0, 1) := by decide +kernel
theorem dX8_keep_1 : decode cX8_keep 1 = .ok (.getfield 44, 3) := by decide +kernel
theorem dX8_keep_4 : decode cX8_keep 4 = .ok (.getfield 176, 3) := by decide +kernel
theorem dX8_keep_7 : decode cX8_keep 7 = .ok (.iconst 2, 1) := by decide +kernel
theorem dX8_keep_8 : decode cX8_keep 8 = .ok (.if_icmp .lt 6, 3) := by decide +kernel
theorem dX8_keep_11 : decode cX8_keep 11 = .ok (.bipush (-3), 2) := by decide +kernel
theorem dX8_keep_13 : decode cX8_keep 13 = .ok (.ireturn, 1) := by decide +kernel
theorem dX8_keep_14 : decode cX8_keep 14 = .ok (.aload_n 0, 1) := by decide +kernel
theorem dX8_keep_15 : decode cX8_keep 15 = .ok (.getfield 44, 3) := by decide +kernel
theorem dX8_keep_18 : decode cX8_keep 18 = .ok (.aload_n 0, 1) := by decide +kernel
theorem dX8_keep_19 : decode cX8_keep 19 = .ok (.getfield 31, 3) := by decide +kernel
theorem dX8_keep_22 : decode cX8_keep 22 = .ok (.invokevirtual 150, 3) := by decide +kernel
theorem dX8_keep_25 : decode cX8_keep 25 = .ok (.aload_n 0, 1) := by decide +kernel
theorem dX8_keep_26 : decode cX8_keep 26 = .ok (.getfield 44, 3) := by decide +kernel
theorem dX8_keep_29 : decode cX8_keep 29 = .ok (.getfield 176, 3) := by decide +kernel
theorem dX8_keep_32 : decode cX8_keep 32 = .ok (.ireturn, 1) := by decide +kernel
theorem dX8_back_0 : decode cX8_back 0 = .ok (.aload_n 0, 1) := by decide +kernel
theorem dX8_back_1 : decode cX8_back 1 = .ok (.getfield 44, 3) := by decide +kernel
theorem dX8_back_4 : decode cX8_back 4 = .ok (.getfield 176, 3) := by decide +kernel
theorem dX8_back_7 : decode cX8_back 7 = .ok (.ifCond .ne 6, 3) := by decide +kernel
theorem dX8_back_10 : decode cX8_back 10 = .ok (.bipush (-2), 2) := by decide +kernel
theorem dX8_back_12 : decode cX8_back 12 = .ok (.ireturn, 1) := by decide +kernel
theorem dX8_back_13 : decode cX8_back 13 = .ok (.aload_n 0, 1) := by decide +kernel
theorem dX8_back_14 : decode cX8_back 14 = .ok (.getfield 44, 3) := by decide +kernel
theorem dX8_back_17 : decode cX8_back 17 = .ok (.aload_n 0, 1) := by decide +kernel
theorem dX8_back_18 : decode cX8_back 18 = .ok (.getfield 31, 3) := by decide +kernel
theorem dX8_back_21 : decode cX8_back 21 = .ok (.invokevirtual 177, 3) := by decide +kernel
theorem dX8_back_24 : decode cX8_back 24 = .ok (.aload_n 0, 1) := by decide +kernel
theorem dX8_back_25 : decode cX8_back 25 = .ok (.getfield 40, 3) := by decide +kernel
theorem dX8_back_28 : decode cX8_back 28 = .ok (.invokevirtual 109, 3) := by decide +kernel
theorem dX8_back_31 : decode cX8_back 31 = .ok (.aload_n 0, 1) := by decide +kernel
theorem dX8_back_32 : decode cX8_back 32 = .ok (.getfield 44, 3) := by decide +kernel
theorem dX8_back_35 : decode cX8_back 35 = .ok (.getfield 176, 3) := by decide +kernel
theorem dX8_back_38 : decode cX8_back 38 = .ok (.ireturn, 1) := by decide +kernel
theorem dX8_count_0 : decode cX8_count 0 = .ok (.iload_n 1, 1) := by decide +kernel
theorem dX8_count_1 : decode cX8_count 1 = .ok (.tableswitch 196 0 13 #[71, 79, 87, 95, 104, 113, 122, 131, 140, 156, 164, 172, 180, 188], 71) := by decide +kernel
theorem dX8_count_72 : decode cX8_count 72 = .ok (.aload_n 0, 1) := by decide +kernel
theorem dX8_count_73 : decode cX8_count 73 = .ok (.getfield 23, 3) := by decide +kernel
theorem dX8_count_76 : decode cX8_count 76 = .ok (.getfield 103, 3) := by decide +kernel
theorem dX8_count_79 : decode cX8_count 79 = .ok (.ireturn, 1) := by decide +kernel
theorem dX8_count_80 : decode cX8_count 80 = .ok (.aload_n 0, 1) := by decide +kernel
theorem dX8_count_81 : decode cX8_count 81 = .ok (.getfield 31, 3) := by decide +kernel
theorem dX8_count_84 : decode cX8_count 84 = .ok (.getfield 249, 3) := by decide +kernel
theorem dX8_count_87 : decode cX8_count 87 = .ok (.ireturn, 1) := by decide +kernel
theorem dX8_count_88 : decode cX8_count 88 = .ok (.aload_n 0, 1) := by decide +kernel
theorem dX8_count_89 : decode cX8_count 89 = .ok (.getfield 31, 3) := by decide +kernel
theorem dX8_count_92 : decode cX8_count 92 = .ok (.getfield 170, 3) := by decide +kernel
theorem dX8_count_95 : decode cX8_count 95 = .ok (.ireturn, 1) := by decide +kernel
theorem dX8_count_96 : decode cX8_count 96 = .ok (.aload_n 0, 1) := by decide +kernel
theorem dX8_count_97 : decode cX8_count 97 = .ok (.getfield 31, 3) := by decide +kernel
theorem dX8_count_100 : decode cX8_count 100 = .ok (.iconst 0, 1) := by decide +kernel
theorem dX8_count_101 : decode cX8_count 101 = .ok (.invokevirtual 227, 3) := by decide +kernel
theorem dX8_count_104 : decode cX8_count 104 = .ok (.ireturn, 1) := by decide +kernel
theorem dX8_count_105 : decode cX8_count 105 = .ok (.aload_n 0, 1) := by decide +kernel
theorem dX8_count_106 : decode cX8_count 106 = .ok (.getfield 31, 3) := by decide +kernel
theorem dX8_count_109 : decode cX8_count 109 = .ok (.iconst 1, 1) := by decide +kernel
theorem dX8_count_110 : decode cX8_count 110 = .ok (.invokevirtual 227, 3) := by decide +kernel
theorem dX8_count_113 : decode cX8_count 113 = .ok (.ireturn, 1) := by decide +kernel
theorem dX8_count_114 : decode cX8_count 114 = .ok (.aload_n 0, 1) := by decide +kernel
theorem dX8_count_115 : decode cX8_count 115 = .ok (.getfield 31, 3) := by decide +kernel
theorem dX8_count_118 : decode cX8_count 118 = .ok (.iconst 2, 1) := by decide +kernel
theorem dX8_count_119 : decode cX8_count 119 = .ok (.invokevirtual 227, 3) := by decide +kernel
theorem dX8_count_122 : decode cX8_count 122 = .ok (.ireturn, 1) := by decide +kernel
theorem dX8_count_123 : decode cX8_count 123 = .ok (.aload_n 0, 1) := by decide +kernel
theorem dX8_count_124 : decode cX8_count 124 = .ok (.getfield 31, 3) := by decide +kernel
theorem dX8_count_127 : decode cX8_count 127 = .ok (.iconst 3, 1) := by decide +kernel
theorem dX8_count_128 : decode cX8_count 128 = .ok (.invokevirtual 227, 3) := by decide +kernel
theorem dX8_count_131 : decode cX8_count 131 = .ok (.ireturn, 1) := by decide +kernel
theorem dX8_count_132 : decode cX8_count 132 = .ok (.aload_n 0, 1) := by decide +kernel
theorem dX8_count_133 : decode cX8_count 133 = .ok (.getfield 31, 3) := by decide +kernel
theorem dX8_count_136 : decode cX8_count 136 = .ok (.iconst 0, 1) := by decide +kernel
theorem dX8_count_137 : decode cX8_count 137 = .ok (.invokevirtual 250, 3) := by decide +kernel
theorem dX8_count_140 : decode cX8_count 140 = .ok (.ireturn, 1) := by decide +kernel
theorem dX8_count_141 : decode cX8_count 141 = .ok (.aload_n 0, 1) := by decide +kernel
theorem dX8_count_142 : decode cX8_count 142 = .ok (.getfield 31, 3) := by decide +kernel
theorem dX8_count_145 : decode cX8_count 145 = .ok (.getfield 253, 3) := by decide +kernel
theorem dX8_count_148 : decode cX8_count 148 = .ok (.ifCond .eq 7, 3) := by decide +kernel
theorem dX8_count_151 : decode cX8_count 151 = .ok (.iconst 1, 1) := by decide +kernel
theorem dX8_count_152 : decode cX8_count 152 = .ok (.goto 4, 3) := by decide +kernel
theorem dX8_count_155 : decode cX8_count 155 = .ok (.iconst 0, 1) := by decide +kernel
theorem dX8_count_156 : decode cX8_count 156 = .ok (.ireturn, 1) := by decide +kernel
theorem dX8_count_157 : decode cX8_count 157 = .ok (.aload_n 0, 1) := by decide +kernel
theorem dX8_count_158 : decode cX8_count 158 = .ok (.getfield 31, 3) := by decide +kernel
theorem dX8_count_161 : decode cX8_count 161 = .ok (.invokevirtual 257, 3) := by decide +kernel
theorem dX8_count_164 : decode cX8_count 164 = .ok (.ireturn, 1) := by decide +kernel
theorem dX8_count_165 : decode cX8_count 165 = .ok (.aload_n 0, 1) := by decide +kernel
theorem dX8_count_166 : decode cX8_count 166 = .ok (.getfield 66, 3) := by decide +kernel
theorem dX8_count_169 : decode cX8_count 169 = .ok (.getfield 110, 3) := by decide +kernel
theorem dX8_count_172 : decode cX8_count 172 = .ok (.ireturn, 1) := by decide +kernel
theorem dX8_count_173 : decode cX8_count 173 = .ok (.aload_n 0, 1) := by decide +kernel
theorem dX8_count_174 : decode cX8_count 174 = .ok (.getfield 40, 3) := by decide +kernel
theorem dX8_count_177 : decode cX8_count 177 = .ok (.getfield 176, 3) := by decide +kernel
theorem dX8_count_180 : decode cX8_count 180 = .ok (.ireturn, 1) := by decide +kernel
theorem dX8_count_181 : decode cX8_count 181 = .ok (.aload_n 0, 1) := by decide +kernel
theorem dX8_count_182 : decode cX8_count 182 = .ok (.getfield 44, 3) := by decide +kernel
theorem dX8_count_185 : decode cX8_count 185 = .ok (.getfield 176, 3) := by decide +kernel
theorem dX8_count_188 : decode cX8_count 188 = .ok (.ireturn, 1) := by decide +kernel
theorem dX8_count_189 : decode cX8_count 189 = .ok (.aload_n 0, 1) := by decide +kernel
theorem dX8_count_190 : decode cX8_count 190 = .ok (.getfield 10, 3) := by decide +kernel
theorem dX8_count_193 : decode cX8_count 193 = .ok (.getfield 101, 3) := by decide +kernel
theorem dX8_count_196 : decode cX8_count 196 = .ok (.ireturn, 1) := by decide +kernel
theorem dX8_count_197 : decode cX8_count 197 = .ok (.iconst (-1), 1) := by decide +kernel
theorem dX8_count_198 : decode cX8_count 198 = .ok (.ireturn, 1) := by decide +kernel
