theorem dX0_init_0 : decode cX0_init 0 = .ok (.aload_n 0, 1) := by decide +kernel
theorem dX0_init_1 : decode cX0_init 1 = .ok (.invokespecial 3, 3) := by decide +kernel
theorem dX0_init_4 : decode cX0_init 4 = .ok (.aload_n 0, 1) := by decide +kernel
theorem dX0_init_5 : decode cX0_init 5 = .ok (.new 9, 3) := by decide +kernel
theorem dX0_init_8 : decode cX0_init 8 = .ok (.dup, 1) := by decide +kernel
theorem dX0_init_9 : decode cX0_init 9 = .ok (.bipush 10, 2) := by decide +kernel
theorem dX0_init_11 : decode cX0_init 11 = .ok (.invokespecial 11, 3) := by decide +kernel
theorem dX0_init_14 : decode cX0_init 14 = .ok (.putfield 14, 3) := by decide +kernel
theorem dX0_init_17 : decode cX0_init 17 = .ok (.aload_n 0, 1) := by decide +kernel
theorem dX0_init_18 : decode cX0_init 18 = .ok (.new 9, 3) := by decide +kernel
theorem dX0_init_21 : decode cX0_init 21 = .ok (.dup, 1) := by decide +kernel
theorem dX0_init_22 : decode cX0_init 22 = .ok (.bipush 10, 2) := by decide +kernel
theorem dX0_init_24 : decode cX0_init 24 = .ok (.invokespecial 11, 3) := by decide +kernel
theorem dX0_init_27 : decode cX0_init 27 = .ok (.putfield 20, 3) := by decide +kernel
theorem dX0_init_30 : decode cX0_init 30 = .ok (.aload_n 0, 1) := by decide +kernel
theorem dX0_init_31 : decode cX0_init 31 = .ok (.new 9, 3) := by decide +kernel
theorem dX0_init_34 : decode cX0_init 34 = .ok (.dup, 1) := by decide +kernel
theorem dX0_init_35 : decode cX0_init 35 = .ok (.bipush 10, 2) := by decide +kernel
theorem dX0_init_37 : decode cX0_init 37 = .ok (.invokespecial 11, 3) := by decide +kernel
theorem dX0_init_40 : decode cX0_init 40 = .ok (.putfield 23, 3) := by decide +kernel
theorem dX0_init_43 : decode cX0_init 43 = .ok (.aload_n 0, 1) := by decide +kernel
theorem dX0_init_44 : decode cX0_init 44 = .ok (.new 9, 3) := by decide +kernel
theorem dX0_init_47 : decode cX0_init 47 = .ok (.dup, 1) := by decide +kernel
theorem dX0_init_48 : decode cX0_init 48 = .ok (.bipush 10, 2) := by decide +kernel
theorem dX0_init_50 : decode cX0_init 50 = .ok (.invokespecial 11, 3) := by decide +kernel
theorem dX0_init_53 : decode cX0_init 53 = .ok (.putfield 26, 3) := by decide +kernel
theorem dX0_init_56 : decode cX0_init 56 = .ok (.aload_n 0, 1) := by decide +kernel
theorem dX0_init_57 : decode cX0_init 57 = .ok (.new 9, 3) := by decide +kernel
theorem dX0_init_60 : decode cX0_init 60 = .ok (.dup, 1) := by decide +kernel
theorem dX0_init_61 : decode cX0_init 61 = .ok (.bipush 10, 2) := by decide +kernel
theorem dX0_init_63 : decode cX0_init 63 = .ok (.invokespecial 11, 3) := by decide +kernel
theorem dX0_init_66 : decode cX0_init 66 = .ok (.putfield 29, 3) := by decide +kernel
theorem dX0_init_69 : decode cX0_init 69 = .ok (.aload_n 0, 1) := by decide +kernel
theorem dX0_init_70 : decode cX0_init 70 = .ok (.iconst 0, 1) := by decide +kernel
theorem dX0_init_71 : decode cX0_init 71 = .ok (.putfield 32, 3) := by decide +kernel
theorem dX0_init_74 : decode cX0_init 74 = .ok (.aload_n 0, 1) := by decide +kernel
theorem dX0_init_75 : decode cX0_init 75 = .ok (.iconst 0, 1) := by decide +kernel
theorem dX0_init_76 : decode cX0_init 76 = .ok (.putfield 36, 3) := by decide +kernel
theorem dX0_init_79 : decode cX0_init 79 = .ok (.aload_n 0, 1) := by decide +kernel
theorem dX0_init_80 : decode cX0_init 80 = .ok (.iconst 0, 1) := by decide +kernel
theorem dX0_init_81 : decode cX0_init 81 = .ok (.putfield 39, 3) := by decide +kernel
theorem dX0_init_84 : decode cX0_init 84 = .ok (.aload_n 0, 1) := by decide +kernel
theorem dX0_init_85 : decode cX0_init 85 = .ok (.iconst 0, 1) := by decide +kernel
theorem dX0_init_86 : decode cX0_init 86 = .ok (.putfield 42, 3) := by decide +kernel
theorem dX0_init_89 : decode cX0_init 89 = .ok (.aload_n 0, 1) := by decide +kernel
theorem dX0_init_90 : decode cX0_init 90 = .ok (.iconst 0, 1) := by decide +kernel
theorem dX0_init_91 : decode cX0_init 91 = .ok (.putfield 45, 3) := by decide +kernel
theorem dX0_init_94 : decode cX0_init 94 = .ok (.return_, 1) := by decide +kernel
theorem dX0_size_0 : decode cX0_size 0 = .ok (.aload_n 0, 1) := by decide +kernel
theorem dX0_size_1 : decode cX0_size 1 = .ok (.getfield 32, 3) := by decide +kernel
theorem dX0_size_4 : decode cX0_size 4 = .ok (.ireturn, 1) := by decide +kernel
theorem dX0_has_0 : decode cX0_has 0 = .ok (.iload_n 1, 1) := by decide +kernel
theorem dX0_has_1 : decode cX0_has 1 = .ok (.ifCond .lt 15, 3) := by decide +kernel
theorem dX0_has_4 : decode cX0_has 4 = .ok (.iload_n 1, 1) := by decide +kernel
theorem dX0_has_5 : decode cX0_has 5 = .ok (.aload_n 0, 1) := by decide +kernel
theorem dX0_has_6 : decode cX0_has 6 = .ok (.getfield 32, 3) := by decide +kernel
theorem dX0_has_9 : decode cX0_has 9 = .ok (.if_icmp .ge 7, 3) := by decide +kernel
theorem dX0_has_12 : decode cX0_has 12 = .ok (.iconst 1, 1) := by decide +kernel
theorem dX0_has_13 : decode cX0_has 13 = .ok (.goto 4, 3) := by decide +kernel
theorem dX0_has_16 : decode cX0_has 16 = .ok (.iconst 0, 1) := by decide +kernel
theorem dX0_has_17 : decode cX0_has 17 = .ok (.ireturn, 1) := by decide +kernel
theorem dX0_levelIn_0 : decode cX0_levelIn 0 = .ok (.aload_n 0, 1) := by decide +kernel
theorem dX0_levelIn_1 : decode cX0_levelIn 1 = .ok (.getfield 23, 3) := by decide +kernel
theorem dX0_levelIn_4 : decode cX0_levelIn 4 = .ok (.iload_n 1, 1) := by decide +kernel
theorem dX0_levelIn_5 : decode cX0_levelIn 5 = .ok (.invokevirtual 48, 3) := by decide +kernel
theorem dX0_levelIn_8 : decode cX0_levelIn 8 = .ok (.ireturn, 1) := by decide +kernel
theorem dX0_append_0 : decode cX0_append 0 = .ok (.aload_n 0, 1) := by decide +kernel
theorem dX0_append_1 : decode cX0_append 1 = .ok (.getfield 14, 3) := by decide +kernel
theorem dX0_append_4 : decode cX0_append 4 = .ok (.aload_n 0, 1) := by decide +kernel
theorem dX0_append_5 : decode cX0_append 5 = .ok (.getfield 32, 3) := by decide +kernel
theorem dX0_append_8 : decode cX0_append 8 = .ok (.iload_n 1, 1) := by decide +kernel
theorem dX0_append_9 : decode cX0_append 9 = .ok (.invokevirtual 52, 3) := by decide +kernel
theorem dX0_append_12 : decode cX0_append 12 = .ok (.aload_n 0, 1) := by decide +kernel
theorem dX0_append_13 : decode cX0_append 13 = .ok (.getfield 20, 3) := by decide +kernel
theorem dX0_append_16 : decode cX0_append 16 = .ok (.aload_n 0, 1) := by decide +kernel
theorem dX0_append_17 : decode cX0_append 17 = .ok (.getfield 32, 3) := by decide +kernel
theorem dX0_append_20 : decode cX0_append 20 = .ok (.iload_n 2, 1) := by decide +kernel
theorem dX0_append_21 : decode cX0_append 21 = .ok (.invokevirtual 52, 3) := by decide +kernel
theorem dX0_append_24 : decode cX0_append 24 = .ok (.aload_n 0, 1) := by decide +kernel
theorem dX0_append_25 : decode cX0_append 25 = .ok (.getfield 23, 3) := by decide +kernel
theorem dX0_append_28 : decode cX0_append 28 = .ok (.aload_n 0, 1) := by decide +kernel
theorem dX0_append_29 : decode cX0_append 29 = .ok (.getfield 32, 3) := by decide +kernel
theorem dX0_append_32 : decode cX0_append 32 = .ok (.iconst 0, 1) := by decide +kernel
theorem dX0_append_33 : decode cX0_append 33 = .ok (.invokevirtual 52, 3) := by decide +kernel
theorem dX0_append_36 : decode cX0_append 36 = .ok (.aload_n 0, 1) := by decide +kernel
theorem dX0_append_37 : decode cX0_append 37 = .ok (.getfield 26, 3) := by decide +kernel
theorem dX0_append_40 : decode cX0_append 40 = .ok (.aload_n 0, 1) := by decide +kernel
theorem dX0_append_41 : decode cX0_append 41 = .ok (.getfield 32, 3) := by decide +kernel
theorem dX0_append_44 : decode cX0_append 44 = .ok (.iconst 0, 1) := by decide +kernel
theorem dX0_append_45 : decode cX0_append 45 = .ok (.invokevirtual 52, 3) := by decide +kernel
theorem dX0_append_48 : decode cX0_append 48 = .ok (.aload_n 0, 1) := by decide +kernel
theorem dX0_append_49 : decode cX0_append 49 = .ok (.getfield 29, 3) := by decide +kernel
theorem dX0_append_52 : decode cX0_append 52 = .ok (.aload_n 0, 1) := by decide +kernel
theorem dX0_append_53 : decode cX0_append 53 = .ok (.getfield 32, 3) := by decide +kernel
theorem dX0_append_56 : decode cX0_append 56 = .ok (.sipush 1000, 3) := by decide +kernel
theorem dX0_append_59 : decode cX0_append 59 = .ok (.invokevirtual 52, 3) := by decide +kernel
theorem dX0_append_62 : decode cX0_append 62 = .ok (.aload_n 0, 1) := by decide +kernel
theorem dX0_append_63 : decode cX0_append 63 = .ok (.dup, 1) := by decide +kernel
theorem dX0_append_64 : decode cX0_append 64 = .ok (.getfield 32, 3) := by decide +kernel
theorem dX0_append_67 : decode cX0_append 67 = .ok (.iconst 1, 1) := by decide +kernel
theorem dX0_append_68 : decode cX0_append 68 = .ok (.iadd, 1) := by decide +kernel
theorem dX0_append_69 : decode cX0_append 69 = .ok (.putfield 32, 3) := by decide +kernel
theorem dX0_append_72 : decode cX0_append 72 = .ok (.return_, 1) := by decide +kernel
theorem dX0_takeAway_0 : decode cX0_takeAway 0 = .ok (.aload_n 0, 1) := by decide +kernel
theorem dX0_takeAway_1 : decode cX0_takeAway 1 = .ok (.dup, 1) := by decide +kernel
theorem dX0_takeAway_2 : decode cX0_takeAway 2 = .ok (.getfield 45, 3) := by decide +kernel
theorem dX0_takeAway_5 : decode cX0_takeAway 5 = .ok (.aload_n 0, 1) := by decide +kernel
theorem dX0_takeAway_6 : decode cX0_takeAway 6 = .ok (.getfield 23, 3) := by decide +kernel
theorem dX0_takeAway_9 : decode cX0_takeAway 9 = .ok (.iload_n 1, 1) := by decide +kernel
theorem dX0_takeAway_10 : decode cX0_takeAway 10 = .ok (.invokevirtual 48, 3) := by decide +kernel
theorem dX0_takeAway_13 : decode cX0_takeAway 13 = .ok (.iadd, 1) := by decide +kernel
theorem dX0_takeAway_14 : decode cX0_takeAway 14 = .ok (.putfield 45, 3) := by decide +kernel
theorem dX0_takeAway_17 : decode cX0_takeAway 17 = .ok (.aload_n 0, 1) := by decide +kernel
theorem dX0_takeAway_18 : decode cX0_takeAway 18 = .ok (.getfield 14, 3) := by decide +kernel
theorem dX0_takeAway_21 : decode cX0_takeAway 21 = .ok (.iload_n 1, 1) := by decide +kernel
theorem dX0_takeAway_22 : decode cX0_takeAway 22 = .ok (.aload_n 0, 1) := by decide +kernel
theorem dX0_takeAway_23 : decode cX0_takeAway 23 = .ok (.getfield 32, 3) := by decide +kernel
theorem dX0_takeAway_26 : decode cX0_takeAway 26 = .ok (.invokevirtual 56, 3) := by decide +kernel
theorem dX0_takeAway_29 : decode cX0_takeAway 29 = .ok (.aload_n 0, 1) := by decide +kernel
theorem dX0_takeAway_30 : decode cX0_takeAway 30 = .ok (.getfield 20, 3) := by decide +kernel
theorem dX0_takeAway_33 : decode cX0_takeAway 33 = .ok (.iload_n 1, 1) := by decide +kernel
theorem dX0_takeAway_34 : decode cX0_takeAway 34 = .ok (.aload_n 0, 1) := by decide +kernel
theorem dX0_takeAway_35 : decode cX0_takeAway 35 = .ok (.getfield 32, 3) := by decide +kernel
theorem dX0_takeAway_38 : decode cX0_takeAway 38 = .ok (.invokevirtual 56, 3) := by decide +kernel
theorem dX0_takeAway_41 : decode cX0_takeAway 41 = .ok (.aload_n 0, 1) := by decide +kernel
theorem dX0_takeAway_42 : decode cX0_takeAway 42 = .ok (.getfield 23, 3) := by decide +kernel
theorem dX0_takeAway_45 : decode cX0_takeAway 45 = .ok (.iload_n 1, 1) := by decide +kernel
theorem dX0_takeAway_46 : decode cX0_takeAway 46 = .ok (.aload_n 0, 1) := by decide +kernel
theorem dX0_takeAway_47 : decode cX0_takeAway 47 = .ok (.getfield 32, 3) := by decide +kernel
theorem dX0_takeAway_50 : decode cX0_takeAway 50 = .ok (.invokevirtual 56, 3) := by decide +kernel
theorem dX0_takeAway_53 : decode cX0_takeAway 53 = .ok (.aload_n 0, 1) := by decide +kernel
theorem dX0_takeAway_54 : decode cX0_takeAway 54 = .ok (.getfield 26, 3) := by decide +kernel
theorem dX0_takeAway_57 : decode cX0_takeAway 57 = .ok (.iload_n 1, 1) := by decide +kernel
theorem dX0_takeAway_58 : decode cX0_takeAway 58 = .ok (.aload_n 0, 1) := by decide +kernel
theorem dX0_takeAway_59 : decode cX0_takeAway 59 = .ok (.getfield 32, 3) := by decide +kernel
theorem dX0_takeAway_62 : decode cX0_takeAway 62 = .ok (.invokevirtual 56, 3) := by decide +kernel
theorem dX0_takeAway_65 : decode cX0_takeAway 65 = .ok (.aload_n 0, 1) := by decide +kernel
theorem dX0_takeAway_66 : decode cX0_takeAway 66 = .ok (.getfield 29, 3) := by decide +kernel
theorem dX0_takeAway_69 : decode cX0_takeAway 69 = .ok (.iload_n 1, 1) := by decide +kernel
theorem dX0_takeAway_70 : decode cX0_takeAway 70 = .ok (.aload_n 0, 1) := by decide +kernel
theorem dX0_takeAway_71 : decode cX0_takeAway 71 = .ok (.getfield 32, 3) := by decide +kernel
theorem dX0_takeAway_74 : decode cX0_takeAway 74 = .ok (.invokevirtual 56, 3) := by decide +kernel
theorem dX0_takeAway_77 : decode cX0_takeAway 77 = .ok (.aload_n 0, 1) := by decide +kernel
theorem dX0_takeAway_78 : decode cX0_takeAway 78 = .ok (.dup, 1) := by decide +kernel
theorem dX0_takeAway_79 : decode cX0_takeAway 79 = .ok (.getfield 32, 3) := by decide +kernel
theorem dX0_takeAway_82 : decode cX0_takeAway 82 = .ok (.iconst 1, 1) := by decide +kernel
theorem dX0_takeAway_83 : decode cX0_takeAway 83 = .ok (.isub, 1) := by decide +kernel
theorem dX0_takeAway_84 : decode cX0_takeAway 84 = .ok (.putfield 32, 3) := by decide +kernel
theorem dX0_takeAway_87 : decode cX0_takeAway 87 = .ok (.return_, 1) := by decide +kernel
theorem dX0_addWater_0 : decode cX0_addWater 0 = .ok (.aload_n 0, 1) := by decide +kernel
theorem dX0_addWater_1 : decode cX0_addWater 1 = .ok (.dup, 1) := by decide +kernel
theorem dX0_addWater_2 : decode cX0_addWater 2 = .ok (.getfield 36, 3) := by decide +kernel
theorem dX0_addWater_5 : decode cX0_addWater 5 = .ok (.iload_n 2, 1) := by decide +kernel
theorem dX0_addWater_6 : decode cX0_addWater 6 = .ok (.iadd, 1) := by decide +kernel
theorem dX0_addWater_7 : decode cX0_addWater 7 = .ok (.putfield 36, 3) := by decide +kernel
theorem dX0_addWater_10 : decode cX0_addWater 10 = .ok (.aload_n 0, 1) := by decide +kernel
theorem dX0_addWater_11 : decode cX0_addWater 11 = .ok (.iload_n 1, 1) := by decide +kernel
theorem dX0_addWater_12 : decode cX0_addWater 12 = .ok (.aload_n 0, 1) := by decide +kernel
theorem dX0_addWater_13 : decode cX0_addWater 13 = .ok (.getfield 23, 3) := by decide +kernel
theorem dX0_addWater_16 : decode cX0_addWater 16 = .ok (.iload_n 1, 1) := by decide +kernel
theorem dX0_addWater_17 : decode cX0_addWater 17 = .ok (.invokevirtual 48, 3) := by decide +kernel
theorem dX0_addWater_20 : decode cX0_addWater 20 = .ok (.iload_n 2, 1) := by decide +kernel
theorem dX0_addWater_21 : decode cX0_addWater 21 = .ok (.iadd, 1) := by decide +kernel
theorem dX0_addWater_22 : decode cX0_addWater 22 = .ok (.invokevirtual 59, 3) := by decide +kernel
theorem dX0_addWater_25 : decode cX0_addWater 25 = .ok (.return_, 1) := by decide +kernel
theorem dX0_takeWater_0 : decode cX0_takeWater 0 = .ok (.aload_n 0, 1) := by decide +kernel
theorem dX0_takeWater_1 : decode cX0_takeWater 1 = .ok (.dup, 1) := by decide +kernel
theorem dX0_takeWater_2 : decode cX0_takeWater 2 = .ok (.getfield 45, 3) := by decide +kernel
theorem dX0_takeWater_5 : decode cX0_takeWater 5 = .ok (.iload_n 2, 1) := by decide +kernel
theorem dX0_takeWater_6 : decode cX0_takeWater 6 = .ok (.iadd, 1) := by decide +kernel
theorem dX0_takeWater_7 : decode cX0_takeWater 7 = .ok (.putfield 45, 3) := by decide +kernel
theorem dX0_takeWater_10 : decode cX0_takeWater 10 = .ok (.aload_n 0, 1) := by decide +kernel
theorem dX0_takeWater_11 : decode cX0_takeWater 11 = .ok (.getfield 23, 3) := by decide +kernel
theorem dX0_takeWater_14 : decode cX0_takeWater 14 = .ok (.iload_n 1, 1) := by decide +kernel
theorem dX0_takeWater_15 : decode cX0_takeWater 15 = .ok (.iload_n 2, 1) := by decide +kernel
theorem dX0_takeWater_16 : decode cX0_takeWater 16 = .ok (.ineg, 1) := by decide +kernel
theorem dX0_takeWater_17 : decode cX0_takeWater 17 = .ok (.invokevirtual 62, 3) := by decide +kernel
theorem dX0_takeWater_20 : decode cX0_takeWater 20 = .ok (.return_, 1) := by decide +kernel
theorem dX0_moveCrack_0 : decode cX0_moveCrack 0 = .ok (.aload_n 0, 1) := by decide +kernel
theorem dX0_moveCrack_1 : decode cX0_moveCrack 1 = .ok (.getfield 29, 3) := by decide +kernel
theorem dX0_moveCrack_4 : decode cX0_moveCrack 4 = .ok (.iload_n 1, 1) := by decide +kernel
theorem dX0_moveCrack_5 : decode cX0_moveCrack 5 = .ok (.iload_n 2, 1) := by decide +kernel
theorem dX0_moveCrack_6 : decode cX0_moveCrack 6 = .ok (.invokevirtual 52, 3) := by decide +kernel
theorem dX0_moveCrack_9 : decode cX0_moveCrack 9 = .ok (.aload_n 0, 1) := by decide +kernel
theorem dX0_moveCrack_10 : decode cX0_moveCrack 10 = .ok (.iload_n 1, 1) := by decide +kernel
theorem dX0_moveCrack_11 : decode cX0_moveCrack 11 = .ok (.aload_n 0, 1) := by decide +kernel
theorem dX0_moveCrack_12 : decode cX0_moveCrack 12 = .ok (.getfield 23, 3) := by decide +kernel
theorem dX0_moveCrack_15 : decode cX0_moveCrack 15 = .ok (.iload_n 1, 1) := by decide +kernel
theorem dX0_moveCrack_16 : decode cX0_moveCrack 16 = .ok (.invokevirtual 48, 3) := by decide +kernel
theorem dX0_moveCrack_19 : decode cX0_moveCrack 19 = .ok (.invokevirtual 59, 3) := by decide +kernel
theorem dX0_moveCrack_22 : decode cX0_moveCrack 22 = .ok (.return_, 1) := by decide +kernel
theorem dX0_moveMark_0 : decode cX0_moveMark 0 = .ok (.aload_n 0, 1) := by decide +kernel
theorem dX0_moveMark_1 : decode cX0_moveMark 1 = .ok (.getfield 26, 3) := by decide +kernel
theorem dX0_moveMark_4 : decode cX0_moveMark 4 = .ok (.iload_n 1, 1) := by decide +kernel
theorem dX0_moveMark_5 : decode cX0_moveMark 5 = .ok (.invokevirtual 48, 3) := by decide +kernel
theorem dX0_moveMark_8 : decode cX0_moveMark 8 = .ok (.istore_n 3, 1) := by decide +kernel
theorem dX0_moveMark_9 : decode cX0_moveMark 9 = .ok (.aload_n 0, 1) := by decide +kernel
theorem dX0_moveMark_10 : decode cX0_moveMark 10 = .ok (.getfield 26, 3) := by decide +kernel
theorem dX0_moveMark_13 : decode cX0_moveMark 13 = .ok (.iload_n 1, 1) := by decide +kernel
theorem dX0_moveMark_14 : decode cX0_moveMark 14 = .ok (.iload_n 2, 1) := by decide +kernel
theorem dX0_moveMark_15 : decode cX0_moveMark 15 = .ok (.invokevirtual 52, 3) := by decide +kernel
theorem dX0_moveMark_18 : decode cX0_moveMark 18 = .ok (.iload_n 3, 1) := by decide +kernel
theorem dX0_moveMark_19 : decode cX0_moveMark 19 = .ok (.ireturn, 1) := by decide +kernel
theorem dX0_hold_0 : decode cX0_hold 0 = .ok (.iload_n 2, 1) := by decide +kernel
theorem dX0_hold_1 : decode cX0_hold 1 = .ok (.aload_n 0, 1) := by decide +kernel
theorem dX0_hold_2 : decode cX0_hold 2 = .ok (.getfield 29, 3) := by decide +kernel
theorem dX0_hold_5 : decode cX0_hold 5 = .ok (.iload_n 1, 1) := by decide +kernel
theorem dX0_hold_6 : decode cX0_hold 6 = .ok (.invokevirtual 48, 3) := by decide +kernel
theorem dX0_hold_9 : decode cX0_hold 9 = .ok (.invokestatic 65, 3) := by decide +kernel
theorem dX0_hold_12 : decode cX0_hold 12 = .ok (.istore_n 3, 1) := by decide +kernel
theorem dX0_hold_13 : decode cX0_hold 13 = .ok (.aload_n 0, 1) := by decide +kernel
theorem dX0_hold_14 : decode cX0_hold 14 = .ok (.dup, 1) := by decide +kernel
theorem dX0_hold_15 : decode cX0_hold 15 = .ok (.getfield 42, 3) := by decide +kernel
theorem dX0_hold_18 : decode cX0_hold 18 = .ok (.iload_n 2, 1) := by decide +kernel
theorem dX0_hold_19 : decode cX0_hold 19 = .ok (.iload_n 3, 1) := by decide +kernel
theorem dX0_hold_20 : decode cX0_hold 20 = .ok (.isub, 1) := by decide +kernel
theorem dX0_hold_21 : decode cX0_hold 21 = .ok (.iadd, 1) := by decide +kernel
theorem dX0_hold_22 : decode cX0_hold 22 = .ok (.putfield 42, 3) := by decide +kernel
theorem dX0_hold_25 : decode cX0_hold 25 = .ok (.aload_n 0, 1) := by decide +kernel
theorem dX0_hold_26 : decode cX0_hold 26 = .ok (.getfield 23, 3) := by decide +kernel
theorem dX0_hold_29 : decode cX0_hold 29 = .ok (.iload_n 1, 1) := by decide +kernel
theorem dX0_hold_30 : decode cX0_hold 30 = .ok (.iload_n 3, 1) := by decide +kernel
theorem dX0_hold_31 : decode cX0_hold 31 = .ok (.invokevirtual 52, 3) := by decide +kernel
theorem dX0_hold_34 : decode cX0_hold 34 = .ok (.return_, 1) := by decide +kernel
theorem dX0_fillToMarks_0 : decode cX0_fillToMarks 0 = .ok (.iconst 0, 1) := by decide +kernel
theorem dX0_fillToMarks_1 : decode cX0_fillToMarks 1 = .ok (.istore_n 1, 1) := by decide +kernel
theorem dX0_fillToMarks_2 : decode cX0_fillToMarks 2 = .ok (.iload_n 1, 1) := by decide +kernel
theorem dX0_fillToMarks_3 : decode cX0_fillToMarks 3 = .ok (.aload_n 0, 1) := by decide +kernel
theorem dX0_fillToMarks_4 : decode cX0_fillToMarks 4 = .ok (.getfield 32, 3) := by decide +kernel
theorem dX0_fillToMarks_7 : decode cX0_fillToMarks 7 = .ok (.if_icmp .ge 54, 3) := by decide +kernel
theorem dX0_fillToMarks_10 : decode cX0_fillToMarks 10 = .ok (.aload_n 0, 1) := by decide +kernel
theorem dX0_fillToMarks_11 : decode cX0_fillToMarks 11 = .ok (.getfield 26, 3) := by decide +kernel
theorem dX0_fillToMarks_14 : decode cX0_fillToMarks 14 = .ok (.iload_n 1, 1) := by decide +kernel
theorem dX0_fillToMarks_15 : decode cX0_fillToMarks 15 = .ok (.invokevirtual 48, 3) := by decide +kernel
theorem dX0_fillToMarks_18 : decode cX0_fillToMarks 18 = .ok (.aload_n 0, 1) := by decide +kernel
theorem dX0_fillToMarks_19 : decode cX0_fillToMarks 19 = .ok (.getfield 23, 3) := by decide +kernel
theorem dX0_fillToMarks_22 : decode cX0_fillToMarks 22 = .ok (.iload_n 1, 1) := by decide +kernel
theorem dX0_fillToMarks_23 : decode cX0_fillToMarks 23 = .ok (.invokevirtual 48, 3) := by decide +kernel
theorem dX0_fillToMarks_26 : decode cX0_fillToMarks 26 = .ok (.isub, 1) := by decide +kernel
theorem dX0_fillToMarks_27 : decode cX0_fillToMarks 27 = .ok (.istore_n 2, 1) := by decide +kernel
theorem dX0_fillToMarks_28 : decode cX0_fillToMarks 28 = .ok (.iload_n 2, 1) := by decide +kernel
theorem dX0_fillToMarks_29 : decode cX0_fillToMarks 29 = .ok (.ifCond .le 26, 3) := by decide +kernel
theorem dX0_fillToMarks_32 : decode cX0_fillToMarks 32 = .ok (.aload_n 0, 1) := by decide +kernel
theorem dX0_fillToMarks_33 : decode cX0_fillToMarks 33 = .ok (.dup, 1) := by decide +kernel
theorem dX0_fillToMarks_34 : decode cX0_fillToMarks 34 = .ok (.getfield 36, 3) := by decide +kernel
theorem dX0_fillToMarks_37 : decode cX0_fillToMarks 37 = .ok (.iload_n 2, 1) := by decide +kernel
theorem dX0_fillToMarks_38 : decode cX0_fillToMarks 38 = .ok (.iadd, 1) := by decide +kernel
theorem dX0_fillToMarks_39 : decode cX0_fillToMarks 39 = .ok (.putfield 36, 3) := by decide +kernel
theorem dX0_fillToMarks_42 : decode cX0_fillToMarks 42 = .ok (.aload_n 0, 1) := by decide +kernel
theorem dX0_fillToMarks_43 : decode cX0_fillToMarks 43 = .ok (.iload_n 1, 1) := by decide +kernel
theorem dX0_fillToMarks_44 : decode cX0_fillToMarks 44 = .ok (.aload_n 0, 1) := by decide +kernel
theorem dX0_fillToMarks_45 : decode cX0_fillToMarks 45 = .ok (.getfield 26, 3) := by decide +kernel
theorem dX0_fillToMarks_48 : decode cX0_fillToMarks 48 = .ok (.iload_n 1, 1) := by decide +kernel
theorem dX0_fillToMarks_49 : decode cX0_fillToMarks 49 = .ok (.invokevirtual 48, 3) := by decide +kernel
theorem dX0_fillToMarks_52 : decode cX0_fillToMarks 52 = .ok (.invokevirtual 59, 3) := by decide +kernel
theorem dX0_fillToMarks_55 : decode cX0_fillToMarks 55 = .ok (.iinc 1 1, 3) := by decide +kernel
theorem dX0_fillToMarks_58 : decode cX0_fillToMarks 58 = .ok (.goto (-56), 3) := by decide +kernel
theorem dX0_fillToMarks_61 : decode cX0_fillToMarks 61 = .ok (.return_, 1) := by decide +kernel
theorem dX0_dry_0 : decode cX0_dry 0 = .ok (.iconst 0, 1) := by decide +kernel
theorem dX0_dry_1 : decode cX0_dry 1 = .ok (.istore_n 2, 1) := by decide +kernel
theorem dX0_dry_2 : decode cX0_dry 2 = .ok (.iload_n 2, 1) := by decide +kernel
theorem dX0_dry_3 : decode cX0_dry 3 = .ok (.aload_n 0, 1) := by decide +kernel
theorem dX0_dry_4 : decode cX0_dry 4 = .ok (.getfield 32, 3) := by decide +kernel
theorem dX0_dry_7 : decode cX0_dry 7 = .ok (.if_icmp .ge 42, 3) := by decide +kernel
theorem dX0_dry_10 : decode cX0_dry 10 = .ok (.aload_n 0, 1) := by decide +kernel
theorem dX0_dry_11 : decode cX0_dry 11 = .ok (.getfield 23, 3) := by decide +kernel
theorem dX0_dry_14 : decode cX0_dry 14 = .ok (.iload_n 2, 1) := by decide +kernel
theorem dX0_dry_15 : decode cX0_dry 15 = .ok (.invokevirtual 48, 3) := by decide +kernel
theorem dX0_dry_18 : decode cX0_dry 18 = .ok (.iload_n 1, 1) := by decide +kernel
theorem dX0_dry_19 : decode cX0_dry 19 = .ok (.invokestatic 65, 3) := by decide +kernel
theorem dX0_dry_22 : decode cX0_dry 22 = .ok (.istore_n 3, 1) := by decide +kernel
theorem dX0_dry_23 : decode cX0_dry 23 = .ok (.aload_n 0, 1) := by decide +kernel
theorem dX0_dry_24 : decode cX0_dry 24 = .ok (.dup, 1) := by decide +kernel
theorem dX0_dry_25 : decode cX0_dry 25 = .ok (.getfield 39, 3) := by decide +kernel
theorem dX0_dry_28 : decode cX0_dry 28 = .ok (.iload_n 3, 1) := by decide +kernel
theorem dX0_dry_29 : decode cX0_dry 29 = .ok (.iadd, 1) := by decide +kernel
theorem dX0_dry_30 : decode cX0_dry 30 = .ok (.putfield 39, 3) := by decide +kernel
theorem dX0_dry_33 : decode cX0_dry 33 = .ok (.aload_n 0, 1) := by decide +kernel
theorem dX0_dry_34 : decode cX0_dry 34 = .ok (.getfield 23, 3) := by decide +kernel
theorem dX0_dry_37 : decode cX0_dry 37 = .ok (.iload_n 2, 1) := by decide +kernel
theorem dX0_dry_38 : decode cX0_dry 38 = .ok (.iload_n 3, 1) := by decide +kernel
theorem dX0_dry_39 : decode cX0_dry 39 = .ok (.ineg, 1) := by decide +kernel
theorem dX0_dry_40 : decode cX0_dry 40 = .ok (.invokevirtual 62, 3) := by decide +kernel
theorem dX0_dry_43 : decode cX0_dry 43 = .ok (.iinc 2 1, 3) := by decide +kernel
theorem dX0_dry_46 : decode cX0_dry 46 = .ok (.goto (-44), 3) := by decide +kernel
theorem dX0_dry_49 : decode cX0_dry 49 = .ok (.return_, 1) := by decide +kernel
theorem dX0_property_0 : decode cX0_property 0 = .ok (.iload_n 2, 1) := by decide +kernel
theorem dX0_property_1 : decode cX0_property 1 = .ok (.tableswitch 119 0 6 #[43, 52, 61, 70, 79, 88, 94], 43) := by decide +kernel
theorem dX0_property_44 : decode cX0_property 44 = .ok (.aload_n 0, 1) := by decide +kernel
theorem dX0_property_45 : decode cX0_property 45 = .ok (.getfield 14, 3) := by decide +kernel
theorem dX0_property_48 : decode cX0_property 48 = .ok (.iload_n 1, 1) := by decide +kernel
theorem dX0_property_49 : decode cX0_property 49 = .ok (.invokevirtual 48, 3) := by decide +kernel
theorem dX0_property_52 : decode cX0_property 52 = .ok (.ireturn, 1) := by decide +kernel
theorem dX0_property_53 : decode cX0_property 53 = .ok (.aload_n 0, 1) := by decide +kernel
theorem dX0_property_54 : decode cX0_property 54 = .ok (.getfield 20, 3) := by decide +kernel
theorem dX0_property_57 : decode cX0_property 57 = .ok (.iload_n 1, 1) := by decide +kernel
theorem dX0_property_58 : decode cX0_property 58 = .ok (.invokevirtual 48, 3) := by decide +kernel
theorem dX0_property_61 : decode cX0_property 61 = .ok (.ireturn, 1) := by decide +kernel
theorem dX0_property_62 : decode cX0_property 62 = .ok (.aload_n 0, 1) := by decide +kernel
theorem dX0_property_63 : decode cX0_property 63 = .ok (.getfield 23, 3) := by decide +kernel
theorem dX0_property_66 : decode cX0_property 66 = .ok (.iload_n 1, 1) := by decide +kernel
theorem dX0_property_67 : decode cX0_property 67 = .ok (.invokevirtual 48, 3) := by decide +kernel
theorem dX0_property_70 : decode cX0_property 70 = .ok (.ireturn, 1) := by decide +kernel
theorem dX0_property_71 : decode cX0_property 71 = .ok (.aload_n 0, 1) := by decide +kernel
theorem dX0_property_72 : decode cX0_property 72 = .ok (.getfield 26, 3) := by decide +kernel
theorem dX0_property_75 : decode cX0_property 75 = .ok (.iload_n 1, 1) := by decide +kernel
theorem dX0_property_76 : decode cX0_property 76 = .ok (.invokevirtual 48, 3) := by decide +kernel
theorem dX0_property_79 : decode cX0_property 79 = .ok (.ireturn, 1) := by decide +kernel
theorem dX0_property_80 : decode cX0_property 80 = .ok (.aload_n 0, 1) := by decide +kernel
theorem dX0_property_81 : decode cX0_property 81 = .ok (.getfield 29, 3) := by decide +kernel
theorem dX0_property_84 : decode cX0_property 84 = .ok (.iload_n 1, 1) := by decide +kernel
theorem dX0_property_85 : decode cX0_property 85 = .ok (.invokevirtual 48, 3) := by decide +kernel
theorem dX0_property_88 : decode cX0_property 88 = .ok (.ireturn, 1) := by decide +kernel
theorem dX0_property_89 : decode cX0_property 89 = .ok (.aload_n 0, 1) := by decide +kernel
theorem dX0_property_90 : decode cX0_property 90 = .ok (.iload_n 1, 1) := by decide +kernel
theorem dX0_property_91 : decode cX0_property 91 = .ok (.invokevirtual 71, 3) := by decide +kernel
theorem dX0_property_94 : decode cX0_property 94 = .ok (.ireturn, 1) := by decide +kernel
theorem dX0_property_95 : decode cX0_property 95 = .ok (.aload_n 0, 1) := by decide +kernel
theorem dX0_property_96 : decode cX0_property 96 = .ok (.iload_n 1, 1) := by decide +kernel
theorem dX0_property_97 : decode cX0_property 97 = .ok (.aload_n 0, 1) := by decide +kernel
theorem dX0_property_98 : decode cX0_property 98 = .ok (.getfield 26, 3) := by decide +kernel
theorem dX0_property_101 : decode cX0_property 101 = .ok (.iload_n 1, 1) := by decide +kernel
theorem dX0_property_102 : decode cX0_property 102 = .ok (.invokevirtual 48, 3) := by decide +kernel
theorem dX0_property_105 : decode cX0_property 105 = .ok (.aload_n 0, 1) := by decide +kernel
theorem dX0_property_106 : decode cX0_property 106 = .ok (.getfield 29, 3) := by decide +kernel
theorem dX0_property_109 : decode cX0_property 109 = .ok (.iload_n 1, 1) := by decide +kernel
theorem dX0_property_110 : decode cX0_property 110 = .ok (.invokevirtual 48, 3) := by decide +kernel
theorem dX0_property_113 : decode cX0_property 113 = .ok (.invokestatic 65, 3) := by decide +kernel
theorem dX0_property_116 : decode cX0_property 116 = .ok (.invokevirtual 74, 3) := by decide +kernel
theorem dX0_property_119 : decode cX0_property 119 = .ok (.ireturn, 1) := by decide +kernel
theorem dX0_property_120 : decode cX0_property 120 = .ok (.ldc 77, 2) := by decide +kernel
theorem dX0_property_122 : decode cX0_property 122 = .ok (.ireturn, 1) := by decide +kernel
theorem dX0_pitchOf_0 : decode cX0_pitchOf 0 = .ok (.aload_n 0, 1) := by decide +kernel
theorem dX0_pitchOf_1 : decode cX0_pitchOf 1 = .ok (.iload_n 1, 1) := by decide +kernel
theorem dX0_pitchOf_2 : decode cX0_pitchOf 2 = .ok (.aload_n 0, 1) := by decide +kernel
theorem dX0_pitchOf_3 : decode cX0_pitchOf 3 = .ok (.getfield 23, 3) := by decide +kernel
theorem dX0_pitchOf_6 : decode cX0_pitchOf 6 = .ok (.iload_n 1, 1) := by decide +kernel
theorem dX0_pitchOf_7 : decode cX0_pitchOf 7 = .ok (.invokevirtual 48, 3) := by decide +kernel
theorem dX0_pitchOf_10 : decode cX0_pitchOf 10 = .ok (.invokevirtual 74, 3) := by decide +kernel
theorem dX0_pitchOf_13 : decode cX0_pitchOf 13 = .ok (.ireturn, 1) := by decide +kernel
theorem dX0_pitchWith_0 : decode cX0_pitchWith 0 = .ok (.aload_n 0, 1) := by decide +kernel
theorem dX0_pitchWith_1 : decode cX0_pitchWith 1 = .ok (.getfield 20, 3) := by decide +kernel
theorem dX0_pitchWith_4 : decode cX0_pitchWith 4 = .ok (.iload_n 1, 1) := by decide +kernel
theorem dX0_pitchWith_5 : decode cX0_pitchWith 5 = .ok (.invokevirtual 48, 3) := by decide +kernel
theorem dX0_pitchWith_8 : decode cX0_pitchWith 8 = .ok (.i2l, 1) := by decide +kernel
theorem dX0_pitchWith_9 : decode cX0_pitchWith 9 = .ok (.iload_n 2, 1) := by decide +kernel
theorem dX0_pitchWith_10 : decode cX0_pitchWith 10 = .ok (.i2l, 1) := by decide +kernel
theorem dX0_pitchWith_11 : decode cX0_pitchWith 11 = .ok (.lmul, 1) := by decide +kernel
theorem dX0_pitchWith_12 : decode cX0_pitchWith 12 = .ok (.iload_n 2, 1) := by decide +kernel
theorem dX0_pitchWith_13 : decode cX0_pitchWith 13 = .ok (.i2l, 1) := by decide +kernel
theorem dX0_pitchWith_14 : decode cX0_pitchWith 14 = .ok (.lmul, 1) := by decide +kernel
theorem dX0_pitchWith_15 : decode cX0_pitchWith 15 = .ok (.ldc2_w 78, 3) := by decide +kernel
theorem dX0_pitchWith_18 : decode cX0_pitchWith 18 = .ok (.ldiv, 1) := by decide +kernel
theorem dX0_pitchWith_19 : decode cX0_pitchWith 19 = .ok (.lstore_n 3, 1) := by decide +kernel
theorem dX0_pitchWith_20 : decode cX0_pitchWith 20 = .ok (.aload_n 0, 1) := by decide +kernel
theorem dX0_pitchWith_21 : decode cX0_pitchWith 21 = .ok (.getfield 14, 3) := by decide +kernel
theorem dX0_pitchWith_24 : decode cX0_pitchWith 24 = .ok (.iload_n 1, 1) := by decide +kernel
theorem dX0_pitchWith_25 : decode cX0_pitchWith 25 = .ok (.invokevirtual 48, 3) := by decide +kernel
theorem dX0_pitchWith_28 : decode cX0_pitchWith 28 = .ok (.lload_n 3, 1) := by decide +kernel
theorem dX0_pitchWith_29 : decode cX0_pitchWith 29 = .ok (.l2i, 1) := by decide +kernel
theorem dX0_pitchWith_30 : decode cX0_pitchWith 30 = .ok (.isub, 1) := by decide +kernel
theorem dX0_pitchWith_31 : decode cX0_pitchWith 31 = .ok (.ireturn, 1) := by decide +kernel
theorem dX0_nearestLevel_0 : decode cX0_nearestLevel 0 = .ok (.iconst 0, 1) := by decide +kernel
theorem dX0_nearestLevel_1 : decode cX0_nearestLevel 1 = .ok (.istore_n 3, 1) := by decide +kernel
theorem dX0_nearestLevel_2 : decode cX0_nearestLevel 2 = .ok (.aload_n 0, 1) := by decide +kernel
theorem dX0_nearestLevel_3 : decode cX0_nearestLevel 3 = .ok (.iload_n 1, 1) := by decide +kernel
theorem dX0_nearestLevel_4 : decode cX0_nearestLevel 4 = .ok (.iload_n 3, 1) := by decide +kernel
theorem dX0_nearestLevel_5 : decode cX0_nearestLevel 5 = .ok (.invokevirtual 74, 3) := by decide +kernel
theorem dX0_nearestLevel_8 : decode cX0_nearestLevel 8 = .ok (.iload_n 2, 1) := by decide +kernel
theorem dX0_nearestLevel_9 : decode cX0_nearestLevel 9 = .ok (.isub, 1) := by decide +kernel
theorem dX0_nearestLevel_10 : decode cX0_nearestLevel 10 = .ok (.invokestatic 80, 3) := by decide +kernel
theorem dX0_nearestLevel_13 : decode cX0_nearestLevel 13 = .ok (.istore 4, 2) := by decide +kernel
theorem dX0_nearestLevel_15 : decode cX0_nearestLevel 15 = .ok (.aload_n 0, 1) := by decide +kernel
theorem dX0_nearestLevel_16 : decode cX0_nearestLevel 16 = .ok (.getfield 29, 3) := by decide +kernel
theorem dX0_nearestLevel_19 : decode cX0_nearestLevel 19 = .ok (.iload_n 1, 1) := by decide +kernel
theorem dX0_nearestLevel_20 : decode cX0_nearestLevel 20 = .ok (.invokevirtual 48, 3) := by decide +kernel
theorem dX0_nearestLevel_23 : decode cX0_nearestLevel 23 = .ok (.istore 5, 2) := by decide +kernel
theorem dX0_nearestLevel_25 : decode cX0_nearestLevel 25 = .ok (.iconst 1, 1) := by decide +kernel
theorem dX0_nearestLevel_26 : decode cX0_nearestLevel 26 = .ok (.istore 6, 2) := by decide +kernel
theorem dX0_nearestLevel_28 : decode cX0_nearestLevel 28 = .ok (.iload 6, 2) := by decide +kernel
theorem dX0_nearestLevel_30 : decode cX0_nearestLevel 30 = .ok (.iload 5, 2) := by decide +kernel
theorem dX0_nearestLevel_32 : decode cX0_nearestLevel 32 = .ok (.if_icmp .gt 37, 3) := by decide +kernel
theorem dX0_nearestLevel_35 : decode cX0_nearestLevel 35 = .ok (.aload_n 0, 1) := by decide +kernel
theorem dX0_nearestLevel_36 : decode cX0_nearestLevel 36 = .ok (.iload_n 1, 1) := by decide +kernel
theorem dX0_nearestLevel_37 : decode cX0_nearestLevel 37 = .ok (.iload 6, 2) := by decide +kernel
theorem dX0_nearestLevel_39 : decode cX0_nearestLevel 39 = .ok (.invokevirtual 74, 3) := by decide +kernel
theorem dX0_nearestLevel_42 : decode cX0_nearestLevel 42 = .ok (.iload_n 2, 1) := by decide +kernel
theorem dX0_nearestLevel_43 : decode cX0_nearestLevel 43 = .ok (.isub, 1) := by decide +kernel
theorem dX0_nearestLevel_44 : decode cX0_nearestLevel 44 = .ok (.invokestatic 80, 3) := by decide +kernel
theorem dX0_nearestLevel_47 : decode cX0_nearestLevel 47 = .ok (.istore 7, 2) := by decide +kernel
theorem dX0_nearestLevel_49 : decode cX0_nearestLevel 49 = .ok (.iload 7, 2) := by decide +kernel
theorem dX0_nearestLevel_51 : decode cX0_nearestLevel 51 = .ok (.iload 4, 2) := by decide +kernel
theorem dX0_nearestLevel_53 : decode cX0_nearestLevel 53 = .ok (.if_icmp .ge 10, 3) := by decide +kernel
theorem dX0_nearestLevel_56 : decode cX0_nearestLevel 56 = .ok (.iload 6, 2) := by decide +kernel
theorem dX0_nearestLevel_58 : decode cX0_nearestLevel 58 = .ok (.istore_n 3, 1) := by decide +kernel
theorem dX0_nearestLevel_59 : decode cX0_nearestLevel 59 = .ok (.iload 7, 2) := by decide +kernel
theorem dX0_nearestLevel_61 : decode cX0_nearestLevel 61 = .ok (.istore 4, 2) := by decide +kernel
theorem dX0_nearestLevel_63 : decode cX0_nearestLevel 63 = .ok (.iinc 6 1, 3) := by decide +kernel
theorem dX0_nearestLevel_66 : decode cX0_nearestLevel 66 = .ok (.goto (-38), 3) := by decide +kernel
theorem dX0_nearestLevel_69 : decode cX0_nearestLevel 69 = .ok (.iload_n 3, 1) := by decide +kernel
theorem dX0_nearestLevel_70 : decode cX0_nearestLevel 70 = .ok (.ireturn, 1) := by decide +kernel
theorem dX0_nearestBowl_0 : decode cX0_nearestBowl 0 = .ok (.iconst (-1), 1) := by decide +kernel
theorem dX0_nearestBowl_1 : decode cX0_nearestBowl 1 = .ok (.istore_n 2, 1) := by decide +kernel
theorem dX0_nearestBowl_2 : decode cX0_nearestBowl 2 = .ok (.iconst 0, 1) := by decide +kernel
theorem dX0_nearestBowl_3 : decode cX0_nearestBowl 3 = .ok (.istore_n 3, 1) := by decide +kernel
theorem dX0_nearestBowl_4 : decode cX0_nearestBowl 4 = .ok (.iconst 0, 1) := by decide +kernel
theorem dX0_nearestBowl_5 : decode cX0_nearestBowl 5 = .ok (.istore 4, 2) := by decide +kernel
theorem dX0_nearestBowl_7 : decode cX0_nearestBowl 7 = .ok (.iload 4, 2) := by decide +kernel
theorem dX0_nearestBowl_9 : decode cX0_nearestBowl 9 = .ok (.aload_n 0, 1) := by decide +kernel
theorem dX0_nearestBowl_10 : decode cX0_nearestBowl 10 = .ok (.getfield 32, 3) := by decide +kernel
theorem dX0_nearestBowl_13 : decode cX0_nearestBowl 13 = .ok (.if_icmp .ge 48, 3) := by decide +kernel
theorem dX0_nearestBowl_16 : decode cX0_nearestBowl 16 = .ok (.aload_n 0, 1) := by decide +kernel
theorem dX0_nearestBowl_17 : decode cX0_nearestBowl 17 = .ok (.iload 4, 2) := by decide +kernel
theorem dX0_nearestBowl_19 : decode cX0_nearestBowl 19 = .ok (.aload_n 0, 1) := by decide +kernel
theorem dX0_nearestBowl_20 : decode cX0_nearestBowl 20 = .ok (.getfield 23, 3) := by decide +kernel
theorem dX0_nearestBowl_23 : decode cX0_nearestBowl 23 = .ok (.iload 4, 2) := by decide +kernel
theorem dX0_nearestBowl_25 : decode cX0_nearestBowl 25 = .ok (.invokevirtual 48, 3) := by decide +kernel
theorem dX0_nearestBowl_28 : decode cX0_nearestBowl 28 = .ok (.invokevirtual 74, 3) := by decide +kernel
theorem dX0_nearestBowl_31 : decode cX0_nearestBowl 31 = .ok (.iload_n 1, 1) := by decide +kernel
theorem dX0_nearestBowl_32 : decode cX0_nearestBowl 32 = .ok (.isub, 1) := by decide +kernel
theorem dX0_nearestBowl_33 : decode cX0_nearestBowl 33 = .ok (.invokestatic 80, 3) := by decide +kernel
theorem dX0_nearestBowl_36 : decode cX0_nearestBowl 36 = .ok (.istore 5, 2) := by decide +kernel
theorem dX0_nearestBowl_38 : decode cX0_nearestBowl 38 = .ok (.iload_n 2, 1) := by decide +kernel
theorem dX0_nearestBowl_39 : decode cX0_nearestBowl 39 = .ok (.iconst (-1), 1) := by decide +kernel
theorem dX0_nearestBowl_40 : decode cX0_nearestBowl 40 = .ok (.if_icmp .eq 9, 3) := by decide +kernel
theorem dX0_nearestBowl_43 : decode cX0_nearestBowl 43 = .ok (.iload 5, 2) := by decide +kernel
theorem dX0_nearestBowl_45 : decode cX0_nearestBowl 45 = .ok (.iload_n 3, 1) := by decide +kernel
theorem dX0_nearestBowl_46 : decode cX0_nearestBowl 46 = .ok (.if_icmp .ge 9, 3) := by decide +kernel
theorem dX0_nearestBowl_49 : decode cX0_nearestBowl 49 = .ok (.iload 4, 2) := by decide +kernel
theorem dX0_nearestBowl_51 : decode cX0_nearestBowl 51 = .ok (.istore_n 2, 1) := by decide +kernel
theorem dX0_nearestBowl_52 : decode cX0_nearestBowl 52 = .ok (.iload 5, 2) := by decide +kernel
theorem dX0_nearestBowl_54 : decode cX0_nearestBowl 54 = .ok (.istore_n 3, 1) := by decide +kernel
theorem dX0_nearestBowl_55 : decode cX0_nearestBowl 55 = .ok (.iinc 4 1, 3) := by decide +kernel
theorem dX0_nearestBowl_58 : decode cX0_nearestBowl 58 = .ok (.goto (-51), 3) := by decide +kernel
theorem dX0_nearestBowl_61 : decode cX0_nearestBowl 61 = .ok (.iload_n 2, 1) := by decide +kernel
theorem dX0_nearestBowl_62 : decode cX0_nearestBowl 62 = .ok (.ireturn, 1) := by decide +kernel
theorem dX0_account_0 : decode cX0_account 0 = .ok (.iload_n 1, 1) := by decide +kernel
theorem dX0_account_1 : decode cX0_account 1 = .ok (.tableswitch 60 0 4 #[35, 40, 45, 50, 55], 35) := by decide +kernel
theorem dX0_account_36 : decode cX0_account 36 = .ok (.aload_n 0, 1) := by decide +kernel
theorem dX0_account_37 : decode cX0_account 37 = .ok (.getfield 36, 3) := by decide +kernel
theorem dX0_account_40 : decode cX0_account 40 = .ok (.ireturn, 1) := by decide +kernel
theorem dX0_account_41 : decode cX0_account 41 = .ok (.aload_n 0, 1) := by decide +kernel
theorem dX0_account_42 : decode cX0_account 42 = .ok (.invokevirtual 83, 3) := by decide +kernel
theorem dX0_account_45 : decode cX0_account 45 = .ok (.ireturn, 1) := by decide +kernel
theorem dX0_account_46 : decode cX0_account 46 = .ok (.aload_n 0, 1) := by decide +kernel
theorem dX0_account_47 : decode cX0_account 47 = .ok (.getfield 39, 3) := by decide +kernel
theorem dX0_account_50 : decode cX0_account 50 = .ok (.ireturn, 1) := by decide +kernel
theorem dX0_account_51 : decode cX0_account 51 = .ok (.aload_n 0, 1) := by decide +kernel
theorem dX0_account_52 : decode cX0_account 52 = .ok (.getfield 42, 3) := by decide +kernel
theorem dX0_account_55 : decode cX0_account 55 = .ok (.ireturn, 1) := by decide +kernel
theorem dX0_account_56 : decode cX0_account 56 = .ok (.aload_n 0, 1) := by decide +kernel
theorem dX0_account_57 : decode cX0_account 57 = .ok (.getfield 45, 3) := by decide +kernel
theorem dX0_account_60 : decode cX0_account 60 = .ok (.ireturn, 1) := by decide +kernel
theorem dX0_account_61 : decode cX0_account 61 = .ok (.ldc 77, 2) := by decide +kernel
theorem dX0_account_63 : decode cX0_account 63 = .ok (.ireturn, 1) := by decide +kernel
theorem dX0_inBowls_0 : decode cX0_inBowls 0 = .ok (.iconst 0, 1) := by decide +kernel
theorem dX0_inBowls_1 : decode cX0_inBowls 1 = .ok (.istore_n 1, 1) := by decide +kernel
theorem dX0_inBowls_2 : decode cX0_inBowls 2 = .ok (.iconst 0, 1) := by decide +kernel
theorem dX0_inBowls_3 : decode cX0_inBowls 3 = .ok (.istore_n 2, 1) := by decide +kernel
theorem dX0_inBowls_4 : decode cX0_inBowls 4 = .ok (.iload_n 2, 1) := by decide +kernel
theorem dX0_inBowls_5 : decode cX0_inBowls 5 = .ok (.aload_n 0, 1) := by decide +kernel
theorem dX0_inBowls_6 : decode cX0_inBowls 6 = .ok (.getfield 32, 3) := by decide +kernel
theorem dX0_inBowls_9 : decode cX0_inBowls 9 = .ok (.if_icmp .ge 20, 3) := by decide +kernel
theorem dX0_inBowls_12 : decode cX0_inBowls 12 = .ok (.iload_n 1, 1) := by decide +kernel
theorem dX0_inBowls_13 : decode cX0_inBowls 13 = .ok (.aload_n 0, 1) := by decide +kernel
theorem dX0_inBowls_14 : decode cX0_inBowls 14 = .ok (.getfield 23, 3) := by decide +kernel
theorem dX0_inBowls_17 : decode cX0_inBowls 17 = .ok (.iload_n 2, 1) := by decide +kernel
theorem dX0_inBowls_18 : decode cX0_inBowls 18 = .ok (.invokevirtual 48, 3) := by decide +kernel
theorem dX0_inBowls_21 : decode cX0_inBowls 21 = .ok (.iadd, 1) := by decide +kernel
theorem dX0_inBowls_22 : decode cX0_inBowls 22 = .ok (.istore_n 1, 1) := by decide +kernel
theorem dX0_inBowls_23 : decode cX0_inBowls 23 = .ok (.iinc 2 1, 3) := by decide +kernel
theorem dX0_inBowls_26 : decode cX0_inBowls 26 = .ok (.goto (-22), 3) := by decide +kernel
theorem dX0_inBowls_29 : decode cX0_inBowls 29 = .ok (.iload_n 1, 1) := by decide +kernel
theorem dX0_inBowls_30 : decode cX0_inBowls 30 = .ok (.ireturn, 1) := by decide +kernel
theorem dX0_copyFrom_0 : decode cX0_copyFrom 0 = .ok (.aload_n 1, 1) := by decide +kernel
theorem dX0_copyFrom_1 : decode cX0_copyFrom 1 = .ok (.ifnonnull 4, 3) := by decide +kernel
theorem dX0_copyFrom_4 : decode cX0_copyFrom 4 = .ok (.return_, 1) := by decide +kernel
theorem dX0_copyFrom_5 : decode cX0_copyFrom 5 = .ok (.aload_n 0, 1) := by decide +kernel
theorem dX0_copyFrom_6 : decode cX0_copyFrom 6 = .ok (.getfield 14, 3) := by decide +kernel
theorem dX0_copyFrom_9 : decode cX0_copyFrom 9 = .ok (.aload_n 1, 1) := by decide +kernel
theorem dX0_copyFrom_10 : decode cX0_copyFrom 10 = .ok (.getfield 14, 3) := by decide +kernel
theorem dX0_copyFrom_13 : decode cX0_copyFrom 13 = .ok (.invokevirtual 87, 3) := by decide +kernel
theorem dX0_copyFrom_16 : decode cX0_copyFrom 16 = .ok (.aload_n 0, 1) := by decide +kernel
theorem dX0_copyFrom_17 : decode cX0_copyFrom 17 = .ok (.getfield 20, 3) := by decide +kernel
theorem dX0_copyFrom_20 : decode cX0_copyFrom 20 = .ok (.aload_n 1, 1) := by decide +kernel
theorem dX0_copyFrom_21 : decode cX0_copyFrom 21 = .ok (.getfield 20, 3) := by decide +kernel
theorem dX0_copyFrom_24 : decode cX0_copyFrom 24 = .ok (.invokevirtual 87, 3) := by decide +kernel
theorem dX0_copyFrom_27 : decode cX0_copyFrom 27 = .ok (.aload_n 0, 1) := by decide +kernel
theorem dX0_copyFrom_28 : decode cX0_copyFrom 28 = .ok (.getfield 23, 3) := by decide +kernel
theorem dX0_copyFrom_31 : decode cX0_copyFrom 31 = .ok (.aload_n 1, 1) := by decide +kernel
theorem dX0_copyFrom_32 : decode cX0_copyFrom 32 = .ok (.getfield 23, 3) := by decide +kernel
theorem dX0_copyFrom_35 : decode cX0_copyFrom 35 = .ok (.invokevirtual 87, 3) := by decide +kernel
theorem dX0_copyFrom_38 : decode cX0_copyFrom 38 = .ok (.aload_n 0, 1) := by decide +kernel
theorem dX0_copyFrom_39 : decode cX0_copyFrom 39 = .ok (.getfield 26, 3) := by decide +kernel
theorem dX0_copyFrom_42 : decode cX0_copyFrom 42 = .ok (.aload_n 1, 1) := by decide +kernel
theorem dX0_copyFrom_43 : decode cX0_copyFrom 43 = .ok (.getfield 26, 3) := by decide +kernel
theorem dX0_copyFrom_46 : decode cX0_copyFrom 46 = .ok (.invokevirtual 87, 3) := by decide +kernel
theorem dX0_copyFrom_49 : decode cX0_copyFrom 49 = .ok (.aload_n 0, 1) := by decide +kernel
theorem dX0_copyFrom_50 : decode cX0_copyFrom 50 = .ok (.getfield 29, 3) := by decide +kernel
theorem dX0_copyFrom_53 : decode cX0_copyFrom 53 = .ok (.aload_n 1, 1) := by decide +kernel
theorem dX0_copyFrom_54 : decode cX0_copyFrom 54 = .ok (.getfield 29, 3) := by decide +kernel
theorem dX0_copyFrom_57 : decode cX0_copyFrom 57 = .ok (.invokevirtual 87, 3) := by decide +kernel
theorem dX0_copyFrom_60 : decode cX0_copyFrom 60 = .ok (.aload_n 0, 1) := by decide +kernel
theorem dX0_copyFrom_61 : decode cX0_copyFrom 61 = .ok (.aload_n 1, 1) := by decide +kernel
theorem dX0_copyFrom_62 : decode cX0_copyFrom 62 = .ok (.getfield 32, 3) := by decide +kernel
theorem dX0_copyFrom_65 : decode cX0_copyFrom 65 = .ok (.putfield 32, 3) := by decide +kernel
theorem dX0_copyFrom_68 : decode cX0_copyFrom 68 = .ok (.aload_n 0, 1) := by decide +kernel
theorem dX0_copyFrom_69 : decode cX0_copyFrom 69 = .ok (.aload_n 1, 1) := by decide +kernel
theorem dX0_copyFrom_70 : decode cX0_copyFrom 70 = .ok (.getfield 36, 3) := by decide +kernel
theorem dX0_copyFrom_73 : decode cX0_copyFrom 73 = .ok (.putfield 36, 3) := by decide +kernel
theorem dX0_copyFrom_76 : decode cX0_copyFrom 76 = .ok (.aload_n 0, 1) := by decide +kernel
theorem dX0_copyFrom_77 : decode cX0_copyFrom 77 = .ok (.aload_n 1, 1) := by decide +kernel
theorem dX0_copyFrom_78 : decode cX0_copyFrom 78 = .ok (.getfield 39, 3) := by decide +kernel
theorem dX0_copyFrom_81 : decode cX0_copyFrom 81 = .ok (.putfield 39, 3) := by decide +kernel
theorem dX0_copyFrom_84 : decode cX0_copyFrom 84 = .ok (.aload_n 0, 1) := by decide +kernel
theorem dX0_copyFrom_85 : decode cX0_copyFrom 85 = .ok (.aload_n 1, 1) := by decide +kernel
theorem dX0_copyFrom_86 : decode cX0_copyFrom 86 = .ok (.getfield 42, 3) := by decide +kernel
theorem dX0_copyFrom_89 : decode cX0_copyFrom 89 = .ok (.putfield 42, 3) := by decide +kernel
theorem dX0_copyFrom_92 : decode cX0_copyFrom 92 = .ok (.aload_n 0, 1) := by decide +kernel
theorem dX0_copyFrom_93 : decode cX0_copyFrom 93 = .ok (.aload_n 1, 1) := by decide +kernel
theorem dX0_copyFrom_94 : decode cX0_copyFrom 94 = .ok (.getfield 45, 3) := by decide +kernel
theorem dX0_copyFrom_97 : decode cX0_copyFrom 97 = .ok (.putfield 45, 3) := by decide +kernel
theorem dX0_copyFrom_100 : decode cX0_copyFrom 100 = .ok (.return_, 1) := by decide +kernel
theorem dX1_init_0 : decode cX1_init 0 = .ok (.aload_n 0, 1) := by decide +kernel
theorem dX1_init_1 : decode cX1_init 1 = .ok (.invokespecial 3, 3) := by decide +kernel
theorem dX1_init_4 : decode cX1_init 4 = .ok (.aload_n 0, 1) := by decide +kernel
theorem dX1_init_5 : decode cX1_init 5 = .ok (.iconst 5, 1) := by decide +kernel
theorem dX1_init_6 : decode cX1_init 6 = .ok (.anewarray 9, 3) := by decide +kernel
theorem dX1_init_9 : decode cX1_init 9 = .ok (.putfield 11, 3) := by decide +kernel
theorem dX1_init_12 : decode cX1_init 12 = .ok (.aload_n 0, 1) := by decide +kernel
theorem dX1_init_13 : decode cX1_init 13 = .ok (.iconst 0, 1) := by decide +kernel
theorem dX1_init_14 : decode cX1_init 14 = .ok (.putfield 17, 3) := by decide +kernel
theorem dX1_init_17 : decode cX1_init 17 = .ok (.aload_n 0, 1) := by decide +kernel
theorem dX1_init_18 : decode cX1_init 18 = .ok (.iconst 0, 1) := by decide +kernel
theorem dX1_init_19 : decode cX1_init 19 = .ok (.putfield 21, 3) := by decide +kernel
theorem dX1_init_22 : decode cX1_init 22 = .ok (.iconst 0, 1) := by decide +kernel
theorem dX1_init_23 : decode cX1_init 23 = .ok (.istore_n 1, 1) := by decide +kernel
theorem dX1_init_24 : decode cX1_init 24 = .ok (.iload_n 1, 1) := by decide +kernel
theorem dX1_init_25 : decode cX1_init 25 = .ok (.aload_n 0, 1) := by decide +kernel
theorem dX1_init_26 : decode cX1_init 26 = .ok (.getfield 11, 3) := by decide +kernel
theorem dX1_init_29 : decode cX1_init 29 = .ok (.arraylength, 1) := by decide +kernel
theorem dX1_init_30 : decode cX1_init 30 = .ok (.if_icmp .ge 22, 3) := by decide +kernel
theorem dX1_init_33 : decode cX1_init 33 = .ok (.aload_n 0, 1) := by decide +kernel
theorem dX1_init_34 : decode cX1_init 34 = .ok (.getfield 11, 3) := by decide +kernel
theorem dX1_init_37 : decode cX1_init 37 = .ok (.iload_n 1, 1) := by decide +kernel
theorem dX1_init_38 : decode cX1_init 38 = .ok (.new 9, 3) := by decide +kernel
theorem dX1_init_41 : decode cX1_init 41 = .ok (.dup, 1) := by decide +kernel
theorem dX1_init_42 : decode cX1_init 42 = .ok (.invokespecial 24, 3) := by decide +kernel
theorem dX1_init_45 : decode cX1_init 45 = .ok (.aastore, 1) := by decide +kernel
theorem dX1_init_46 : decode cX1_init 46 = .ok (.iinc 1 1, 3) := by decide +kernel
theorem dX1_init_49 : decode cX1_init 49 = .ok (.goto (-25), 3) := by decide +kernel
theorem dX1_init_52 : decode cX1_init 52 = .ok (.return_, 1) := by decide +kernel
theorem dX1_size_0 : decode cX1_size 0 = .ok (.aload_n 0, 1) := by decide +kernel
theorem dX1_size_1 : decode cX1_size 1 = .ok (.getfield 21, 3) := by decide +kernel
theorem dX1_size_4 : decode cX1_size 4 = .ok (.ireturn, 1) := by decide +kernel
theorem dX1_stateAt_0 : decode cX1_stateAt 0 = .ok (.iload_n 1, 1) := by decide +kernel
theorem dX1_stateAt_1 : decode cX1_stateAt 1 = .ok (.ifCond .lt 21, 3) := by decide +kernel
theorem dX1_stateAt_4 : decode cX1_stateAt 4 = .ok (.iload_n 1, 1) := by decide +kernel
theorem dX1_stateAt_5 : decode cX1_stateAt 5 = .ok (.aload_n 0, 1) := by decide +kernel
theorem dX1_stateAt_6 : decode cX1_stateAt 6 = .ok (.getfield 11, 3) := by decide +kernel
theorem dX1_stateAt_9 : decode cX1_stateAt 9 = .ok (.arraylength, 1) := by decide +kernel
theorem dX1_stateAt_10 : decode cX1_stateAt 10 = .ok (.if_icmp .ge 12, 3) := by decide +kernel
theorem dX1_stateAt_13 : decode cX1_stateAt 13 = .ok (.aload_n 0, 1) := by decide +kernel
theorem dX1_stateAt_14 : decode cX1_stateAt 14 = .ok (.getfield 11, 3) := by decide +kernel
theorem dX1_stateAt_17 : decode cX1_stateAt 17 = .ok (.iload_n 1, 1) := by decide +kernel
theorem dX1_stateAt_18 : decode cX1_stateAt 18 = .ok (.aaload, 1) := by decide +kernel
theorem dX1_stateAt_19 : decode cX1_stateAt 19 = .ok (.goto 4, 3) := by decide +kernel
theorem dX1_stateAt_22 : decode cX1_stateAt 22 = .ok (.aconst_null, 1) := by decide +kernel
theorem dX1_stateAt_23 : decode cX1_stateAt 23 = .ok (.areturn, 1) := by decide +kernel
theorem dX1_record_0 : decode cX1_record 0 = .ok (.aload_n 0, 1) := by decide +kernel
theorem dX1_record_1 : decode cX1_record 1 = .ok (.aload_n 0, 1) := by decide +kernel
theorem dX1_record_2 : decode cX1_record 2 = .ok (.getfield 17, 3) := by decide +kernel
theorem dX1_record_5 : decode cX1_record 5 = .ok (.invokevirtual 25, 3) := by decide +kernel
theorem dX1_record_8 : decode cX1_record 8 = .ok (.astore_n 2, 1) := by decide +kernel
theorem dX1_record_9 : decode cX1_record 9 = .ok (.aload_n 2, 1) := by decide +kernel
theorem dX1_record_10 : decode cX1_record 10 = .ok (.ifnull 8, 3) := by decide +kernel
theorem dX1_record_13 : decode cX1_record 13 = .ok (.aload_n 2, 1) := by decide +kernel
theorem dX1_record_14 : decode cX1_record 14 = .ok (.aload_n 1, 1) := by decide +kernel
theorem dX1_record_15 : decode cX1_record 15 = .ok (.invokevirtual 29, 3) := by decide +kernel
theorem dX1_record_18 : decode cX1_record 18 = .ok (.aload_n 0, 1) := by decide +kernel
theorem dX1_record_19 : decode cX1_record 19 = .ok (.aload_n 0, 1) := by decide +kernel
theorem dX1_record_20 : decode cX1_record 20 = .ok (.getfield 17, 3) := by decide +kernel
theorem dX1_record_23 : decode cX1_record 23 = .ok (.iconst 1, 1) := by decide +kernel
theorem dX1_record_24 : decode cX1_record 24 = .ok (.iadd, 1) := by decide +kernel
theorem dX1_record_25 : decode cX1_record 25 = .ok (.iconst 5, 1) := by decide +kernel
theorem dX1_record_26 : decode cX1_record 26 = .ok (.irem, 1) := by decide +kernel
theorem dX1_record_27 : decode cX1_record 27 = .ok (.putfield 17, 3) := by decide +kernel
theorem dX1_record_30 : decode cX1_record 30 = .ok (.aload_n 0, 1) := by decide +kernel
theorem dX1_record_31 : decode cX1_record 31 = .ok (.aload_n 0, 1) := by decide +kernel
theorem dX1_record_32 : decode cX1_record 32 = .ok (.getfield 21, 3) := by decide +kernel
theorem dX1_record_35 : decode cX1_record 35 = .ok (.iconst 1, 1) := by decide +kernel
theorem dX1_record_36 : decode cX1_record 36 = .ok (.iadd, 1) := by decide +kernel
theorem dX1_record_37 : decode cX1_record 37 = .ok (.iconst 5, 1) := by decide +kernel
theorem dX1_record_38 : decode cX1_record 38 = .ok (.invokestatic 33, 3) := by decide +kernel
theorem dX1_record_41 : decode cX1_record 41 = .ok (.putfield 21, 3) := by decide +kernel
theorem dX1_record_44 : decode cX1_record 44 = .ok (.return_, 1) := by decide +kernel
theorem dX1_restore_0 : decode cX1_restore 0 = .ok (.aload_n 0, 1) := by decide +kernel
theorem dX1_restore_1 : decode cX1_restore 1 = .ok (.aload_n 0, 1) := by decide +kernel
theorem dX1_restore_2 : decode cX1_restore 2 = .ok (.getfield 17, 3) := by decide +kernel
theorem dX1_restore_5 : decode cX1_restore 5 = .ok (.iconst 5, 1) := by decide +kernel
theorem dX1_restore_6 : decode cX1_restore 6 = .ok (.iadd, 1) := by decide +kernel
theorem dX1_restore_7 : decode cX1_restore 7 = .ok (.iconst 1, 1) := by decide +kernel
theorem dX1_restore_8 : decode cX1_restore 8 = .ok (.isub, 1) := by decide +kernel
theorem dX1_restore_9 : decode cX1_restore 9 = .ok (.iconst 5, 1) := by decide +kernel
theorem dX1_restore_10 : decode cX1_restore 10 = .ok (.irem, 1) := by decide +kernel
theorem dX1_restore_11 : decode cX1_restore 11 = .ok (.putfield 17, 3) := by decide +kernel
theorem dX1_restore_14 : decode cX1_restore 14 = .ok (.aload_n 0, 1) := by decide +kernel
theorem dX1_restore_15 : decode cX1_restore 15 = .ok (.aload_n 0, 1) := by decide +kernel
theorem dX1_restore_16 : decode cX1_restore 16 = .ok (.getfield 21, 3) := by decide +kernel
theorem dX1_restore_19 : decode cX1_restore 19 = .ok (.iconst 1, 1) := by decide +kernel
theorem dX1_restore_20 : decode cX1_restore 20 = .ok (.isub, 1) := by decide +kernel
theorem dX1_restore_21 : decode cX1_restore 21 = .ok (.iconst 0, 1) := by decide +kernel
theorem dX1_restore_22 : decode cX1_restore 22 = .ok (.invokestatic 39, 3) := by decide +kernel
theorem dX1_restore_25 : decode cX1_restore 25 = .ok (.putfield 21, 3) := by decide +kernel
theorem dX1_restore_28 : decode cX1_restore 28 = .ok (.aload_n 1, 1) := by decide +kernel
theorem dX1_restore_29 : decode cX1_restore 29 = .ok (.ifnull 15, 3) := by decide +kernel
theorem dX1_restore_32 : decode cX1_restore 32 = .ok (.aload_n 1, 1) := by decide +kernel
theorem dX1_restore_33 : decode cX1_restore 33 = .ok (.aload_n 0, 1) := by decide +kernel
theorem dX1_restore_34 : decode cX1_restore 34 = .ok (.aload_n 0, 1) := by decide +kernel
theorem dX1_restore_35 : decode cX1_restore 35 = .ok (.getfield 17, 3) := by decide +kernel
theorem dX1_restore_38 : decode cX1_restore 38 = .ok (.invokevirtual 25, 3) := by decide +kernel
theorem dX1_restore_41 : decode cX1_restore 41 = .ok (.invokevirtual 29, 3) := by decide +kernel
theorem dX1_restore_44 : decode cX1_restore 44 = .ok (.return_, 1) := by decide +kernel
theorem dX2_init_0 : decode cX2_init 0 = .ok (.aload_n 0, 1) := by decide +kernel
theorem dX2_init_1 : decode cX2_init 1 = .ok (.invokespecial 3, 3) := by decide +kernel
theorem dX2_init_4 : decode cX2_init 4 = .ok (.aload_n 0, 1) := by decide +kernel
theorem dX2_init_5 : decode cX2_init 5 = .ok (.new 9, 3) := by decide +kernel
theorem dX2_init_8 : decode cX2_init 8 = .ok (.dup, 1) := by decide +kernel
theorem dX2_init_9 : decode cX2_init 9 = .ok (.bipush 40, 2) := by decide +kernel
theorem dX2_init_11 : decode cX2_init 11 = .ok (.invokespecial 11, 3) := by decide +kernel
theorem dX2_init_14 : decode cX2_init 14 = .ok (.putfield 14, 3) := by decide +kernel
theorem dX2_init_17 : decode cX2_init 17 = .ok (.aload_n 0, 1) := by decide +kernel
theorem dX2_init_18 : decode cX2_init 18 = .ok (.new 9, 3) := by decide +kernel
theorem dX2_init_21 : decode cX2_init 21 = .ok (.dup, 1) := by decide +kernel
theorem dX2_init_22 : decode cX2_init 22 = .ok (.bipush 40, 2) := by decide +kernel
theorem dX2_init_24 : decode cX2_init 24 = .ok (.invokespecial 11, 3) := by decide +kernel
theorem dX2_init_27 : decode cX2_init 27 = .ok (.putfield 20, 3) := by decide +kernel
theorem dX2_init_30 : decode cX2_init 30 = .ok (.aload_n 0, 1) := by decide +kernel
theorem dX2_init_31 : decode cX2_init 31 = .ok (.new 9, 3) := by decide +kernel
theorem dX2_init_34 : decode cX2_init 34 = .ok (.dup, 1) := by decide +kernel
theorem dX2_init_35 : decode cX2_init 35 = .ok (.bipush 40, 2) := by decide +kernel
theorem dX2_init_37 : decode cX2_init 37 = .ok (.invokespecial 11, 3) := by decide +kernel
theorem dX2_init_40 : decode cX2_init 40 = .ok (.putfield 23, 3) := by decide +kernel
theorem dX2_init_43 : decode cX2_init 43 = .ok (.aload_n 0, 1) := by decide +kernel
theorem dX2_init_44 : decode cX2_init 44 = .ok (.new 9, 3) := by decide +kernel
theorem dX2_init_47 : decode cX2_init 47 = .ok (.dup, 1) := by decide +kernel
theorem dX2_init_48 : decode cX2_init 48 = .ok (.bipush 40, 2) := by decide +kernel
theorem dX2_init_50 : decode cX2_init 50 = .ok (.invokespecial 11, 3) := by decide +kernel
theorem dX2_init_53 : decode cX2_init 53 = .ok (.putfield 26, 3) := by decide +kernel
theorem dX2_init_56 : decode cX2_init 56 = .ok (.aload_n 0, 1) := by decide +kernel
theorem dX2_init_57 : decode cX2_init 57 = .ok (.new 9, 3) := by decide +kernel
theorem dX2_init_60 : decode cX2_init 60 = .ok (.dup, 1) := by decide +kernel
theorem dX2_init_61 : decode cX2_init 61 = .ok (.bipush 40, 2) := by decide +kernel
theorem dX2_init_63 : decode cX2_init 63 = .ok (.invokespecial 11, 3) := by decide +kernel
theorem dX2_init_66 : decode cX2_init 66 = .ok (.putfield 29, 3) := by decide +kernel
theorem dX2_init_69 : decode cX2_init 69 = .ok (.aload_n 0, 1) := by decide +kernel
theorem dX2_init_70 : decode cX2_init 70 = .ok (.iconst 0, 1) := by decide +kernel
theorem dX2_init_71 : decode cX2_init 71 = .ok (.putfield 32, 3) := by decide +kernel
theorem dX2_init_74 : decode cX2_init 74 = .ok (.return_, 1) := by decide +kernel
theorem dX2_size_0 : decode cX2_size 0 = .ok (.aload_n 0, 1) := by decide +kernel
theorem dX2_size_1 : decode cX2_size 1 = .ok (.getfield 32, 3) := by decide +kernel
theorem dX2_size_4 : decode cX2_size 4 = .ok (.ireturn, 1) := by decide +kernel
theorem dX2_has_0 : decode cX2_has 0 = .ok (.iload_n 1, 1) := by decide +kernel
theorem dX2_has_1 : decode cX2_has 1 = .ok (.ifCond .lt 15, 3) := by decide +kernel
theorem dX2_has_4 : decode cX2_has 4 = .ok (.iload_n 1, 1) := by decide +kernel
theorem dX2_has_5 : decode cX2_has 5 = .ok (.aload_n 0, 1) := by decide +kernel
theorem dX2_has_6 : decode cX2_has 6 = .ok (.getfield 32, 3) := by decide +kernel
theorem dX2_has_9 : decode cX2_has 9 = .ok (.if_icmp .ge 7, 3) := by decide +kernel
theorem dX2_has_12 : decode cX2_has 12 = .ok (.iconst 1, 1) := by decide +kernel
theorem dX2_has_13 : decode cX2_has 13 = .ok (.goto 4, 3) := by decide +kernel
theorem dX2_has_16 : decode cX2_has 16 = .ok (.iconst 0, 1) := by decide +kernel
theorem dX2_has_17 : decode cX2_has 17 = .ok (.ireturn, 1) := by decide +kernel
theorem dX2_isFull_0 : decode cX2_isFull 0 = .ok (.aload_n 0, 1) := by decide +kernel
theorem dX2_isFull_1 : decode cX2_isFull 1 = .ok (.getfield 32, 3) := by decide +kernel
theorem dX2_isFull_4 : decode cX2_isFull 4 = .ok (.bipush 40, 2) := by decide +kernel
theorem dX2_isFull_6 : decode cX2_isFull 6 = .ok (.if_icmp .lt 7, 3) := by decide +kernel
theorem dX2_isFull_9 : decode cX2_isFull 9 = .ok (.iconst 1, 1) := by decide +kernel
theorem dX2_isFull_10 : decode cX2_isFull 10 = .ok (.goto 4, 3) := by decide +kernel
theorem dX2_isFull_13 : decode cX2_isFull 13 = .ok (.iconst 0, 1) := by decide +kernel
theorem dX2_isFull_14 : decode cX2_isFull 14 = .ok (.ireturn, 1) := by decide +kernel
theorem dX2_timeOf_0 : decode cX2_timeOf 0 = .ok (.aload_n 0, 1) := by decide +kernel
theorem dX2_timeOf_1 : decode cX2_timeOf 1 = .ok (.getfield 14, 3) := by decide +kernel
theorem dX2_timeOf_4 : decode cX2_timeOf 4 = .ok (.iload_n 1, 1) := by decide +kernel
theorem dX2_timeOf_5 : decode cX2_timeOf 5 = .ok (.invokevirtual 36, 3) := by decide +kernel
theorem dX2_timeOf_8 : decode cX2_timeOf 8 = .ok (.ireturn, 1) := by decide +kernel
theorem dX2_pitchOf_0 : decode cX2_pitchOf 0 = .ok (.aload_n 0, 1) := by decide +kernel
theorem dX2_pitchOf_1 : decode cX2_pitchOf 1 = .ok (.getfield 20, 3) := by decide +kernel
theorem dX2_pitchOf_4 : decode cX2_pitchOf 4 = .ok (.iload_n 1, 1) := by decide +kernel
theorem dX2_pitchOf_5 : decode cX2_pitchOf 5 = .ok (.invokevirtual 36, 3) := by decide +kernel
theorem dX2_pitchOf_8 : decode cX2_pitchOf 8 = .ok (.ireturn, 1) := by decide +kernel
theorem dX2_errorOf_0 : decode cX2_errorOf 0 = .ok (.aload_n 0, 1) := by decide +kernel
theorem dX2_errorOf_1 : decode cX2_errorOf 1 = .ok (.getfield 29, 3) := by decide +kernel
theorem dX2_errorOf_4 : decode cX2_errorOf 4 = .ok (.iload_n 1, 1) := by decide +kernel
theorem dX2_errorOf_5 : decode cX2_errorOf 5 = .ok (.invokevirtual 36, 3) := by decide +kernel
theorem dX2_errorOf_8 : decode cX2_errorOf 8 = .ok (.ireturn, 1) := by decide +kernel
theorem dX2_placeFor_0 : decode cX2_placeFor 0 = .ok (.iconst 0, 1) := by decide +kernel
theorem dX2_placeFor_1 : decode cX2_placeFor 1 = .ok (.istore_n 2, 1) := by decide +kernel
theorem dX2_placeFor_2 : decode cX2_placeFor 2 = .ok (.iload_n 2, 1) := by decide +kernel
theorem dX2_placeFor_3 : decode cX2_placeFor 3 = .ok (.aload_n 0, 1) := by decide +kernel
theorem dX2_placeFor_4 : decode cX2_placeFor 4 = .ok (.getfield 32, 3) := by decide +kernel
theorem dX2_placeFor_7 : decode cX2_placeFor 7 = .ok (.if_icmp .ge 21, 3) := by decide +kernel
theorem dX2_placeFor_10 : decode cX2_placeFor 10 = .ok (.aload_n 0, 1) := by decide +kernel
theorem dX2_placeFor_11 : decode cX2_placeFor 11 = .ok (.getfield 14, 3) := by decide +kernel
theorem dX2_placeFor_14 : decode cX2_placeFor 14 = .ok (.iload_n 2, 1) := by decide +kernel
theorem dX2_placeFor_15 : decode cX2_placeFor 15 = .ok (.invokevirtual 36, 3) := by decide +kernel
theorem dX2_placeFor_18 : decode cX2_placeFor 18 = .ok (.iload_n 1, 1) := by decide +kernel
theorem dX2_placeFor_19 : decode cX2_placeFor 19 = .ok (.if_icmp .ge 9, 3) := by decide +kernel
theorem dX2_placeFor_22 : decode cX2_placeFor 22 = .ok (.iinc 2 1, 3) := by decide +kernel
theorem dX2_placeFor_25 : decode cX2_placeFor 25 = .ok (.goto (-23), 3) := by decide +kernel
theorem dX2_placeFor_28 : decode cX2_placeFor 28 = .ok (.iload_n 2, 1) := by decide +kernel
theorem dX2_placeFor_29 : decode cX2_placeFor 29 = .ok (.ireturn, 1) := by decide +kernel
theorem dX2_hasNoteAt_0 : decode cX2_hasNoteAt 0 = .ok (.aload_n 0, 1) := by decide +kernel
theorem dX2_hasNoteAt_1 : decode cX2_hasNoteAt 1 = .ok (.iload_n 1, 1) := by decide +kernel
theorem dX2_hasNoteAt_2 : decode cX2_hasNoteAt 2 = .ok (.invokevirtual 40, 3) := by decide +kernel
theorem dX2_hasNoteAt_5 : decode cX2_hasNoteAt 5 = .ok (.istore_n 2, 1) := by decide +kernel
theorem dX2_hasNoteAt_6 : decode cX2_hasNoteAt 6 = .ok (.iload_n 2, 1) := by decide +kernel
theorem dX2_hasNoteAt_7 : decode cX2_hasNoteAt 7 = .ok (.aload_n 0, 1) := by decide +kernel
theorem dX2_hasNoteAt_8 : decode cX2_hasNoteAt 8 = .ok (.getfield 32, 3) := by decide +kernel
theorem dX2_hasNoteAt_11 : decode cX2_hasNoteAt 11 = .ok (.if_icmp .ge 19, 3) := by decide +kernel
theorem dX2_hasNoteAt_14 : decode cX2_hasNoteAt 14 = .ok (.aload_n 0, 1) := by decide +kernel
theorem dX2_hasNoteAt_15 : decode cX2_hasNoteAt 15 = .ok (.getfield 14, 3) := by decide +kernel
theorem dX2_hasNoteAt_18 : decode cX2_hasNoteAt 18 = .ok (.iload_n 2, 1) := by decide +kernel
theorem dX2_hasNoteAt_19 : decode cX2_hasNoteAt 19 = .ok (.invokevirtual 36, 3) := by decide +kernel
theorem dX2_hasNoteAt_22 : decode cX2_hasNoteAt 22 = .ok (.iload_n 1, 1) := by decide +kernel
theorem dX2_hasNoteAt_23 : decode cX2_hasNoteAt 23 = .ok (.if_icmp .ne 7, 3) := by decide +kernel
theorem dX2_hasNoteAt_26 : decode cX2_hasNoteAt 26 = .ok (.iconst 1, 1) := by decide +kernel
theorem dX2_hasNoteAt_27 : decode cX2_hasNoteAt 27 = .ok (.goto 4, 3) := by decide +kernel
theorem dX2_hasNoteAt_30 : decode cX2_hasNoteAt 30 = .ok (.iconst 0, 1) := by decide +kernel
theorem dX2_hasNoteAt_31 : decode cX2_hasNoteAt 31 = .ok (.ireturn, 1) := by decide +kernel
theorem dX2_insert_0 : decode cX2_insert 0 = .ok (.aload_n 0, 1) := by decide +kernel
theorem dX2_insert_1 : decode cX2_insert 1 = .ok (.iload_n 1, 1) := by decide +kernel
theorem dX2_insert_2 : decode cX2_insert 2 = .ok (.invokevirtual 40, 3) := by decide +kernel
theorem dX2_insert_5 : decode cX2_insert 5 = .ok (.istore_n 3, 1) := by decide +kernel
theorem dX2_insert_6 : decode cX2_insert 6 = .ok (.aload_n 0, 1) := by decide +kernel
theorem dX2_insert_7 : decode cX2_insert 7 = .ok (.getfield 14, 3) := by decide +kernel
theorem dX2_insert_10 : decode cX2_insert 10 = .ok (.iload_n 3, 1) := by decide +kernel
theorem dX2_insert_11 : decode cX2_insert 11 = .ok (.iload_n 1, 1) := by decide +kernel
theorem dX2_insert_12 : decode cX2_insert 12 = .ok (.aload_n 0, 1) := by decide +kernel
theorem dX2_insert_13 : decode cX2_insert 13 = .ok (.getfield 32, 3) := by decide +kernel
theorem dX2_insert_16 : decode cX2_insert 16 = .ok (.invokevirtual 43, 3) := by decide +kernel
theorem dX2_insert_19 : decode cX2_insert 19 = .ok (.aload_n 0, 1) := by decide +kernel
theorem dX2_insert_20 : decode cX2_insert 20 = .ok (.getfield 20, 3) := by decide +kernel
theorem dX2_insert_23 : decode cX2_insert 23 = .ok (.iload_n 3, 1) := by decide +kernel
theorem dX2_insert_24 : decode cX2_insert 24 = .ok (.iload_n 2, 1) := by decide +kernel
theorem dX2_insert_25 : decode cX2_insert 25 = .ok (.aload_n 0, 1) := by decide +kernel
theorem dX2_insert_26 : decode cX2_insert 26 = .ok (.getfield 32, 3) := by decide +kernel
theorem dX2_insert_29 : decode cX2_insert 29 = .ok (.invokevirtual 43, 3) := by decide +kernel
theorem dX2_insert_32 : decode cX2_insert 32 = .ok (.aload_n 0, 1) := by decide +kernel
theorem dX2_insert_33 : decode cX2_insert 33 = .ok (.getfield 23, 3) := by decide +kernel
theorem dX2_insert_36 : decode cX2_insert 36 = .ok (.iload_n 3, 1) := by decide +kernel
theorem dX2_insert_37 : decode cX2_insert 37 = .ok (.iconst 0, 1) := by decide +kernel
theorem dX2_insert_38 : decode cX2_insert 38 = .ok (.aload_n 0, 1) := by decide +kernel
theorem dX2_insert_39 : decode cX2_insert 39 = .ok (.getfield 32, 3) := by decide +kernel
theorem dX2_insert_42 : decode cX2_insert 42 = .ok (.invokevirtual 43, 3) := by decide +kernel
theorem dX2_insert_45 : decode cX2_insert 45 = .ok (.aload_n 0, 1) := by decide +kernel
theorem dX2_insert_46 : decode cX2_insert 46 = .ok (.getfield 26, 3) := by decide +kernel
theorem dX2_insert_49 : decode cX2_insert 49 = .ok (.iload_n 3, 1) := by decide +kernel
theorem dX2_insert_50 : decode cX2_insert 50 = .ok (.iconst 0, 1) := by decide +kernel
theorem dX2_insert_51 : decode cX2_insert 51 = .ok (.aload_n 0, 1) := by decide +kernel
theorem dX2_insert_52 : decode cX2_insert 52 = .ok (.getfield 32, 3) := by decide +kernel
theorem dX2_insert_55 : decode cX2_insert 55 = .ok (.invokevirtual 43, 3) := by decide +kernel
theorem dX2_insert_58 : decode cX2_insert 58 = .ok (.aload_n 0, 1) := by decide +kernel
theorem dX2_insert_59 : decode cX2_insert 59 = .ok (.getfield 29, 3) := by decide +kernel
theorem dX2_insert_62 : decode cX2_insert 62 = .ok (.iload_n 3, 1) := by decide +kernel
theorem dX2_insert_63 : decode cX2_insert 63 = .ok (.iconst 0, 1) := by decide +kernel
theorem dX2_insert_64 : decode cX2_insert 64 = .ok (.aload_n 0, 1) := by decide +kernel
theorem dX2_insert_65 : decode cX2_insert 65 = .ok (.getfield 32, 3) := by decide +kernel
theorem dX2_insert_68 : decode cX2_insert 68 = .ok (.invokevirtual 43, 3) := by decide +kernel
theorem dX2_insert_71 : decode cX2_insert 71 = .ok (.aload_n 0, 1) := by decide +kernel
theorem dX2_insert_72 : decode cX2_insert 72 = .ok (.dup, 1) := by decide +kernel
theorem dX2_insert_73 : decode cX2_insert 73 = .ok (.getfield 32, 3) := by decide +kernel
theorem dX2_insert_76 : decode cX2_insert 76 = .ok (.iconst 1, 1) := by decide +kernel
theorem dX2_insert_77 : decode cX2_insert 77 = .ok (.iadd, 1) := by decide +kernel
theorem dX2_insert_78 : decode cX2_insert 78 = .ok (.putfield 32, 3) := by decide +kernel
theorem dX2_insert_81 : decode cX2_insert 81 = .ok (.iload_n 3, 1) := by decide +kernel
theorem dX2_insert_82 : decode cX2_insert 82 = .ok (.ireturn, 1) := by decide +kernel
theorem dX2_takeAway_0 : decode cX2_takeAway 0 = .ok (.aload_n 0, 1) := by decide +kernel
theorem dX2_takeAway_1 : decode cX2_takeAway 1 = .ok (.getfield 14, 3) := by decide +kernel
theorem dX2_takeAway_4 : decode cX2_takeAway 4 = .ok (.iload_n 1, 1) := by decide +kernel
theorem dX2_takeAway_5 : decode cX2_takeAway 5 = .ok (.aload_n 0, 1) := by decide +kernel
theorem dX2_takeAway_6 : decode cX2_takeAway 6 = .ok (.getfield 32, 3) := by decide +kernel
theorem dX2_takeAway_9 : decode cX2_takeAway 9 = .ok (.invokevirtual 47, 3) := by decide +kernel
theorem dX2_takeAway_12 : decode cX2_takeAway 12 = .ok (.aload_n 0, 1) := by decide +kernel
theorem dX2_takeAway_13 : decode cX2_takeAway 13 = .ok (.getfield 20, 3) := by decide +kernel
theorem dX2_takeAway_16 : decode cX2_takeAway 16 = .ok (.iload_n 1, 1) := by decide +kernel
theorem dX2_takeAway_17 : decode cX2_takeAway 17 = .ok (.aload_n 0, 1) := by decide +kernel
theorem dX2_takeAway_18 : decode cX2_takeAway 18 = .ok (.getfield 32, 3) := by decide +kernel
theorem dX2_takeAway_21 : decode cX2_takeAway 21 = .ok (.invokevirtual 47, 3) := by decide +kernel
theorem dX2_takeAway_24 : decode cX2_takeAway 24 = .ok (.aload_n 0, 1) := by decide +kernel
theorem dX2_takeAway_25 : decode cX2_takeAway 25 = .ok (.getfield 23, 3) := by decide +kernel
theorem dX2_takeAway_28 : decode cX2_takeAway 28 = .ok (.iload_n 1, 1) := by decide +kernel
theorem dX2_takeAway_29 : decode cX2_takeAway 29 = .ok (.aload_n 0, 1) := by decide +kernel
theorem dX2_takeAway_30 : decode cX2_takeAway 30 = .ok (.getfield 32, 3) := by decide +kernel
theorem dX2_takeAway_33 : decode cX2_takeAway 33 = .ok (.invokevirtual 47, 3) := by decide +kernel
theorem dX2_takeAway_36 : decode cX2_takeAway 36 = .ok (.aload_n 0, 1) := by decide +kernel
theorem dX2_takeAway_37 : decode cX2_takeAway 37 = .ok (.getfield 26, 3) := by decide +kernel
theorem dX2_takeAway_40 : decode cX2_takeAway 40 = .ok (.iload_n 1, 1) := by decide +kernel
theorem dX2_takeAway_41 : decode cX2_takeAway 41 = .ok (.aload_n 0, 1) := by decide +kernel
theorem dX2_takeAway_42 : decode cX2_takeAway 42 = .ok (.getfield 32, 3) := by decide +kernel
theorem dX2_takeAway_45 : decode cX2_takeAway 45 = .ok (.invokevirtual 47, 3) := by decide +kernel
theorem dX2_takeAway_48 : decode cX2_takeAway 48 = .ok (.aload_n 0, 1) := by decide +kernel
theorem dX2_takeAway_49 : decode cX2_takeAway 49 = .ok (.getfield 29, 3) := by decide +kernel
theorem dX2_takeAway_52 : decode cX2_takeAway 52 = .ok (.iload_n 1, 1) := by decide +kernel
theorem dX2_takeAway_53 : decode cX2_takeAway 53 = .ok (.aload_n 0, 1) := by decide +kernel
theorem dX2_takeAway_54 : decode cX2_takeAway 54 = .ok (.getfield 32, 3) := by decide +kernel
theorem dX2_takeAway_57 : decode cX2_takeAway 57 = .ok (.invokevirtual 47, 3) := by decide +kernel
theorem dX2_takeAway_60 : decode cX2_takeAway 60 = .ok (.aload_n 0, 1) := by decide +kernel
theorem dX2_takeAway_61 : decode cX2_takeAway 61 = .ok (.dup, 1) := by decide +kernel
theorem dX2_takeAway_62 : decode cX2_takeAway 62 = .ok (.getfield 32, 3) := by decide +kernel
theorem dX2_takeAway_65 : decode cX2_takeAway 65 = .ok (.iconst 1, 1) := by decide +kernel
theorem dX2_takeAway_66 : decode cX2_takeAway 66 = .ok (.isub, 1) := by decide +kernel
theorem dX2_takeAway_67 : decode cX2_takeAway 67 = .ok (.putfield 32, 3) := by decide +kernel
theorem dX2_takeAway_70 : decode cX2_takeAway 70 = .ok (.return_, 1) := by decide +kernel
theorem dX2_canShift_0 : decode cX2_canShift 0 = .ok (.iload_n 1, 1) := by decide +kernel
theorem dX2_canShift_1 : decode cX2_canShift 1 = .ok (.istore 4, 2) := by decide +kernel
theorem dX2_canShift_3 : decode cX2_canShift 3 = .ok (.iload 4, 2) := by decide +kernel
theorem dX2_canShift_5 : decode cX2_canShift 5 = .ok (.iload_n 2, 1) := by decide +kernel
theorem dX2_canShift_6 : decode cX2_canShift 6 = .ok (.if_icmp .gt 32, 3) := by decide +kernel
theorem dX2_canShift_9 : decode cX2_canShift 9 = .ok (.aload_n 0, 1) := by decide +kernel
theorem dX2_canShift_10 : decode cX2_canShift 10 = .ok (.getfield 20, 3) := by decide +kernel
theorem dX2_canShift_13 : decode cX2_canShift 13 = .ok (.iload 4, 2) := by decide +kernel
theorem dX2_canShift_15 : decode cX2_canShift 15 = .ok (.invokevirtual 36, 3) := by decide +kernel
theorem dX2_canShift_18 : decode cX2_canShift 18 = .ok (.iload_n 3, 1) := by decide +kernel
theorem dX2_canShift_19 : decode cX2_canShift 19 = .ok (.iadd, 1) := by decide +kernel
theorem dX2_canShift_20 : decode cX2_canShift 20 = .ok (.iconst 0, 1) := by decide +kernel
theorem dX2_canShift_21 : decode cX2_canShift 21 = .ok (.sipush 6000, 3) := by decide +kernel
theorem dX2_canShift_24 : decode cX2_canShift 24 = .ok (.invokestatic 51, 3) := by decide +kernel
theorem dX2_canShift_27 : decode cX2_canShift 27 = .ok (.ifCond .ne 5, 3) := by decide +kernel
theorem dX2_canShift_30 : decode cX2_canShift 30 = .ok (.iconst 0, 1) := by decide +kernel
theorem dX2_canShift_31 : decode cX2_canShift 31 = .ok (.ireturn, 1) := by decide +kernel
theorem dX2_canShift_32 : decode cX2_canShift 32 = .ok (.iinc 4 1, 3) := by decide +kernel
theorem dX2_canShift_35 : decode cX2_canShift 35 = .ok (.goto (-32), 3) := by decide +kernel
theorem dX2_canShift_38 : decode cX2_canShift 38 = .ok (.iconst 1, 1) := by decide +kernel
theorem dX2_canShift_39 : decode cX2_canShift 39 = .ok (.ireturn, 1) := by decide +kernel
theorem dX2_shift_0 : decode cX2_shift 0 = .ok (.iload_n 1, 1) := by decide +kernel
theorem dX2_shift_1 : decode cX2_shift 1 = .ok (.istore 4, 2) := by decide +kernel
theorem dX2_shift_3 : decode cX2_shift 3 = .ok (.iload 4, 2) := by decide +kernel
theorem dX2_shift_5 : decode cX2_shift 5 = .ok (.iload_n 2, 1) := by decide +kernel
theorem dX2_shift_6 : decode cX2_shift 6 = .ok (.if_icmp .gt 19, 3) := by decide +kernel
theorem dX2_shift_9 : decode cX2_shift 9 = .ok (.aload_n 0, 1) := by decide +kernel
theorem dX2_shift_10 : decode cX2_shift 10 = .ok (.getfield 20, 3) := by decide +kernel
theorem dX2_shift_13 : decode cX2_shift 13 = .ok (.iload 4, 2) := by decide +kernel
theorem dX2_shift_15 : decode cX2_shift 15 = .ok (.iload_n 3, 1) := by decide +kernel
theorem dX2_shift_16 : decode cX2_shift 16 = .ok (.invokevirtual 55, 3) := by decide +kernel
theorem dX2_shift_19 : decode cX2_shift 19 = .ok (.iinc 4 1, 3) := by decide +kernel
theorem dX2_shift_22 : decode cX2_shift 22 = .ok (.goto (-19), 3) := by decide +kernel
theorem dX2_shift_25 : decode cX2_shift 25 = .ok (.return_, 1) := by decide +kernel
theorem dX2_beginsPhrase_0 : decode cX2_beginsPhrase 0 = .ok (.iload_n 1, 1) := by decide +kernel
theorem dX2_beginsPhrase_1 : decode cX2_beginsPhrase 1 = .ok (.ifCond .eq 26, 3) := by decide +kernel
theorem dX2_beginsPhrase_4 : decode cX2_beginsPhrase 4 = .ok (.aload_n 0, 1) := by decide +kernel
theorem dX2_beginsPhrase_5 : decode cX2_beginsPhrase 5 = .ok (.getfield 14, 3) := by decide +kernel
theorem dX2_beginsPhrase_8 : decode cX2_beginsPhrase 8 = .ok (.iload_n 1, 1) := by decide +kernel
theorem dX2_beginsPhrase_9 : decode cX2_beginsPhrase 9 = .ok (.invokevirtual 36, 3) := by decide +kernel
theorem dX2_beginsPhrase_12 : decode cX2_beginsPhrase 12 = .ok (.aload_n 0, 1) := by decide +kernel
theorem dX2_beginsPhrase_13 : decode cX2_beginsPhrase 13 = .ok (.getfield 14, 3) := by decide +kernel
theorem dX2_beginsPhrase_16 : decode cX2_beginsPhrase 16 = .ok (.iload_n 1, 1) := by decide +kernel
theorem dX2_beginsPhrase_17 : decode cX2_beginsPhrase 17 = .ok (.iconst 1, 1) := by decide +kernel
theorem dX2_beginsPhrase_18 : decode cX2_beginsPhrase 18 = .ok (.isub, 1) := by decide +kernel
theorem dX2_beginsPhrase_19 : decode cX2_beginsPhrase 19 = .ok (.invokevirtual 36, 3) := by decide +kernel
theorem dX2_beginsPhrase_22 : decode cX2_beginsPhrase 22 = .ok (.isub, 1) := by decide +kernel
theorem dX2_beginsPhrase_23 : decode cX2_beginsPhrase 23 = .ok (.iload_n 2, 1) := by decide +kernel
theorem dX2_beginsPhrase_24 : decode cX2_beginsPhrase 24 = .ok (.if_icmp .lt 7, 3) := by decide +kernel
theorem dX2_beginsPhrase_27 : decode cX2_beginsPhrase 27 = .ok (.iconst 1, 1) := by decide +kernel
theorem dX2_beginsPhrase_28 : decode cX2_beginsPhrase 28 = .ok (.goto 4, 3) := by decide +kernel
theorem dX2_beginsPhrase_31 : decode cX2_beginsPhrase 31 = .ok (.iconst 0, 1) := by decide +kernel
theorem dX2_beginsPhrase_32 : decode cX2_beginsPhrase 32 = .ok (.ireturn, 1) := by decide +kernel
theorem dX2_phraseOf_0 : decode cX2_phraseOf 0 = .ok (.iconst (-1), 1) := by decide +kernel
theorem dX2_phraseOf_1 : decode cX2_phraseOf 1 = .ok (.istore_n 3, 1) := by decide +kernel
theorem dX2_phraseOf_2 : decode cX2_phraseOf 2 = .ok (.iconst 0, 1) := by decide +kernel
theorem dX2_phraseOf_3 : decode cX2_phraseOf 3 = .ok (.istore 4, 2) := by decide +kernel
theorem dX2_phraseOf_5 : decode cX2_phraseOf 5 = .ok (.iload 4, 2) := by decide +kernel
theorem dX2_phraseOf_7 : decode cX2_phraseOf 7 = .ok (.iload_n 1, 1) := by decide +kernel
theorem dX2_phraseOf_8 : decode cX2_phraseOf 8 = .ok (.if_icmp .gt 22, 3) := by decide +kernel
theorem dX2_phraseOf_11 : decode cX2_phraseOf 11 = .ok (.aload_n 0, 1) := by decide +kernel
theorem dX2_phraseOf_12 : decode cX2_phraseOf 12 = .ok (.iload 4, 2) := by decide +kernel
theorem dX2_phraseOf_14 : decode cX2_phraseOf 14 = .ok (.iload_n 2, 1) := by decide +kernel
theorem dX2_phraseOf_15 : decode cX2_phraseOf 15 = .ok (.invokevirtual 58, 3) := by decide +kernel
theorem dX2_phraseOf_18 : decode cX2_phraseOf 18 = .ok (.ifCond .eq 6, 3) := by decide +kernel
theorem dX2_phraseOf_21 : decode cX2_phraseOf 21 = .ok (.iinc 3 1, 3) := by decide +kernel
theorem dX2_phraseOf_24 : decode cX2_phraseOf 24 = .ok (.iinc 4 1, 3) := by decide +kernel
theorem dX2_phraseOf_27 : decode cX2_phraseOf 27 = .ok (.goto (-22), 3) := by decide +kernel
theorem dX2_phraseOf_30 : decode cX2_phraseOf 30 = .ok (.iload_n 3, 1) := by decide +kernel
theorem dX2_phraseOf_31 : decode cX2_phraseOf 31 = .ok (.ireturn, 1) := by decide +kernel
theorem dX2_phrases_0 : decode cX2_phrases 0 = .ok (.aload_n 0, 1) := by decide +kernel
theorem dX2_phrases_1 : decode cX2_phrases 1 = .ok (.aload_n 0, 1) := by decide +kernel
theorem dX2_phrases_2 : decode cX2_phrases 2 = .ok (.getfield 32, 3) := by decide +kernel
theorem dX2_phrases_5 : decode cX2_phrases 5 = .ok (.iconst 1, 1) := by decide +kernel
theorem dX2_phrases_6 : decode cX2_phrases 6 = .ok (.isub, 1) := by decide +kernel
theorem dX2_phrases_7 : decode cX2_phrases 7 = .ok (.iload_n 1, 1) := by decide +kernel
theorem dX2_phrases_8 : decode cX2_phrases 8 = .ok (.invokevirtual 62, 3) := by decide +kernel
theorem dX2_phrases_11 : decode cX2_phrases 11 = .ok (.iconst 1, 1) := by decide +kernel
theorem dX2_phrases_12 : decode cX2_phrases 12 = .ok (.iadd, 1) := by decide +kernel
theorem dX2_phrases_13 : decode cX2_phrases 13 = .ok (.ireturn, 1) := by decide +kernel
theorem dX2_keepSilence_0 : decode cX2_keepSilence 0 = .ok (.aload_n 0, 1) := by decide +kernel
theorem dX2_keepSilence_1 : decode cX2_keepSilence 1 = .ok (.getfield 23, 3) := by decide +kernel
theorem dX2_keepSilence_4 : decode cX2_keepSilence 4 = .ok (.iload_n 1, 1) := by decide +kernel
theorem dX2_keepSilence_5 : decode cX2_keepSilence 5 = .ok (.iconst 1, 1) := by decide +kernel
theorem dX2_keepSilence_6 : decode cX2_keepSilence 6 = .ok (.invokevirtual 66, 3) := by decide +kernel
theorem dX2_keepSilence_9 : decode cX2_keepSilence 9 = .ok (.return_, 1) := by decide +kernel
theorem dX2_keepSound_0 : decode cX2_keepSound 0 = .ok (.aload_n 0, 1) := by decide +kernel
theorem dX2_keepSound_1 : decode cX2_keepSound 1 = .ok (.getfield 23, 3) := by decide +kernel
theorem dX2_keepSound_4 : decode cX2_keepSound 4 = .ok (.iload_n 1, 1) := by decide +kernel
theorem dX2_keepSound_5 : decode cX2_keepSound 5 = .ok (.iload 4, 2) := by decide +kernel
theorem dX2_keepSound_7 : decode cX2_keepSound 7 = .ok (.ifCond .eq 7, 3) := by decide +kernel
theorem dX2_keepSound_10 : decode cX2_keepSound 10 = .ok (.iconst 3, 1) := by decide +kernel
theorem dX2_keepSound_11 : decode cX2_keepSound 11 = .ok (.goto 4, 3) := by decide +kernel
theorem dX2_keepSound_14 : decode cX2_keepSound 14 = .ok (.iconst 2, 1) := by decide +kernel
theorem dX2_keepSound_15 : decode cX2_keepSound 15 = .ok (.invokevirtual 66, 3) := by decide +kernel
theorem dX2_keepSound_18 : decode cX2_keepSound 18 = .ok (.aload_n 0, 1) := by decide +kernel
theorem dX2_keepSound_19 : decode cX2_keepSound 19 = .ok (.getfield 26, 3) := by decide +kernel
theorem dX2_keepSound_22 : decode cX2_keepSound 22 = .ok (.iload_n 1, 1) := by decide +kernel
theorem dX2_keepSound_23 : decode cX2_keepSound 23 = .ok (.iload_n 2, 1) := by decide +kernel
theorem dX2_keepSound_24 : decode cX2_keepSound 24 = .ok (.invokevirtual 66, 3) := by decide +kernel
theorem dX2_keepSound_27 : decode cX2_keepSound 27 = .ok (.aload_n 0, 1) := by decide +kernel
theorem dX2_keepSound_28 : decode cX2_keepSound 28 = .ok (.getfield 29, 3) := by decide +kernel
theorem dX2_keepSound_31 : decode cX2_keepSound 31 = .ok (.iload_n 1, 1) := by decide +kernel
theorem dX2_keepSound_32 : decode cX2_keepSound 32 = .ok (.iload_n 3, 1) := by decide +kernel
theorem dX2_keepSound_33 : decode cX2_keepSound 33 = .ok (.invokevirtual 66, 3) := by decide +kernel
theorem dX2_keepSound_36 : decode cX2_keepSound 36 = .ok (.return_, 1) := by decide +kernel
theorem dX2_forgetPlaying_0 : decode cX2_forgetPlaying 0 = .ok (.iconst 0, 1) := by decide +kernel
theorem dX2_forgetPlaying_1 : decode cX2_forgetPlaying 1 = .ok (.istore_n 1, 1) := by decide +kernel
theorem dX2_forgetPlaying_2 : decode cX2_forgetPlaying 2 = .ok (.iload_n 1, 1) := by decide +kernel
theorem dX2_forgetPlaying_3 : decode cX2_forgetPlaying 3 = .ok (.aload_n 0, 1) := by decide +kernel
theorem dX2_forgetPlaying_4 : decode cX2_forgetPlaying 4 = .ok (.getfield 32, 3) := by decide +kernel
theorem dX2_forgetPlaying_7 : decode cX2_forgetPlaying 7 = .ok (.if_icmp .ge 18, 3) := by decide +kernel
theorem dX2_forgetPlaying_10 : decode cX2_forgetPlaying 10 = .ok (.aload_n 0, 1) := by decide +kernel
theorem dX2_forgetPlaying_11 : decode cX2_forgetPlaying 11 = .ok (.getfield 23, 3) := by decide +kernel
theorem dX2_forgetPlaying_14 : decode cX2_forgetPlaying 14 = .ok (.iload_n 1, 1) := by decide +kernel
theorem dX2_forgetPlaying_15 : decode cX2_forgetPlaying 15 = .ok (.iconst 0, 1) := by decide +kernel
theorem dX2_forgetPlaying_16 : decode cX2_forgetPlaying 16 = .ok (.invokevirtual 66, 3) := by decide +kernel
theorem dX2_forgetPlaying_19 : decode cX2_forgetPlaying 19 = .ok (.iinc 1 1, 3) := by decide +kernel
theorem dX2_forgetPlaying_22 : decode cX2_forgetPlaying 22 = .ok (.goto (-20), 3) := by decide +kernel
theorem dX2_forgetPlaying_25 : decode cX2_forgetPlaying 25 = .ok (.return_, 1) := by decide +kernel
theorem dX2_sounded_0 : decode cX2_sounded 0 = .ok (.aload_n 0, 1) := by decide +kernel
theorem dX2_sounded_1 : decode cX2_sounded 1 = .ok (.getfield 23, 3) := by decide +kernel
theorem dX2_sounded_4 : decode cX2_sounded 4 = .ok (.iload_n 1, 1) := by decide +kernel
theorem dX2_sounded_5 : decode cX2_sounded 5 = .ok (.invokevirtual 36, 3) := by decide +kernel
theorem dX2_sounded_8 : decode cX2_sounded 8 = .ok (.iconst 2, 1) := by decide +kernel
theorem dX2_sounded_9 : decode cX2_sounded 9 = .ok (.if_icmp .eq 15, 3) := by decide +kernel
theorem dX2_sounded_12 : decode cX2_sounded 12 = .ok (.aload_n 0, 1) := by decide +kernel
theorem dX2_sounded_13 : decode cX2_sounded 13 = .ok (.getfield 23, 3) := by decide +kernel
theorem dX2_sounded_16 : decode cX2_sounded 16 = .ok (.iload_n 1, 1) := by decide +kernel
theorem dX2_sounded_17 : decode cX2_sounded 17 = .ok (.invokevirtual 36, 3) := by decide +kernel
theorem dX2_sounded_20 : decode cX2_sounded 20 = .ok (.iconst 3, 1) := by decide +kernel
theorem dX2_sounded_21 : decode cX2_sounded 21 = .ok (.if_icmp .ne 7, 3) := by decide +kernel
theorem dX2_sounded_24 : decode cX2_sounded 24 = .ok (.iconst 1, 1) := by decide +kernel
theorem dX2_sounded_25 : decode cX2_sounded 25 = .ok (.goto 4, 3) := by decide +kernel
theorem dX2_sounded_28 : decode cX2_sounded 28 = .ok (.iconst 0, 1) := by decide +kernel
theorem dX2_sounded_29 : decode cX2_sounded 29 = .ok (.ireturn, 1) := by decide +kernel
theorem dX2_notesWith_0 : decode cX2_notesWith 0 = .ok (.iconst 0, 1) := by decide +kernel
theorem dX2_notesWith_1 : decode cX2_notesWith 1 = .ok (.istore_n 2, 1) := by decide +kernel
theorem dX2_notesWith_2 : decode cX2_notesWith 2 = .ok (.iconst 0, 1) := by decide +kernel
theorem dX2_notesWith_3 : decode cX2_notesWith 3 = .ok (.istore_n 3, 1) := by decide +kernel
theorem dX2_notesWith_4 : decode cX2_notesWith 4 = .ok (.iload_n 3, 1) := by decide +kernel
theorem dX2_notesWith_5 : decode cX2_notesWith 5 = .ok (.aload_n 0, 1) := by decide +kernel
theorem dX2_notesWith_6 : decode cX2_notesWith 6 = .ok (.getfield 32, 3) := by decide +kernel
theorem dX2_notesWith_9 : decode cX2_notesWith 9 = .ok (.if_icmp .ge 24, 3) := by decide +kernel
theorem dX2_notesWith_12 : decode cX2_notesWith 12 = .ok (.aload_n 0, 1) := by decide +kernel
theorem dX2_notesWith_13 : decode cX2_notesWith 13 = .ok (.getfield 23, 3) := by decide +kernel
theorem dX2_notesWith_16 : decode cX2_notesWith 16 = .ok (.iload_n 3, 1) := by decide +kernel
theorem dX2_notesWith_17 : decode cX2_notesWith 17 = .ok (.invokevirtual 36, 3) := by decide +kernel
theorem dX2_notesWith_20 : decode cX2_notesWith 20 = .ok (.iload_n 1, 1) := by decide +kernel
theorem dX2_notesWith_21 : decode cX2_notesWith 21 = .ok (.if_icmp .ne 6, 3) := by decide +kernel
theorem dX2_notesWith_24 : decode cX2_notesWith 24 = .ok (.iinc 2 1, 3) := by decide +kernel
theorem dX2_notesWith_27 : decode cX2_notesWith 27 = .ok (.iinc 3 1, 3) := by decide +kernel
theorem dX2_notesWith_30 : decode cX2_notesWith 30 = .ok (.goto (-26), 3) := by decide +kernel
theorem dX2_notesWith_33 : decode cX2_notesWith 33 = .ok (.iload_n 2, 1) := by decide +kernel
theorem dX2_notesWith_34 : decode cX2_notesWith 34 = .ok (.ireturn, 1) := by decide +kernel
theorem dX2_playedNotes_0 : decode cX2_playedNotes 0 = .ok (.aload_n 0, 1) := by decide +kernel
theorem dX2_playedNotes_1 : decode cX2_playedNotes 1 = .ok (.getfield 32, 3) := by decide +kernel
theorem dX2_playedNotes_4 : decode cX2_playedNotes 4 = .ok (.aload_n 0, 1) := by decide +kernel
theorem dX2_playedNotes_5 : decode cX2_playedNotes 5 = .ok (.iconst 0, 1) := by decide +kernel
theorem dX2_playedNotes_6 : decode cX2_playedNotes 6 = .ok (.invokevirtual 69, 3) := by decide +kernel
theorem dX2_playedNotes_9 : decode cX2_playedNotes 9 = .ok (.isub, 1) := by decide +kernel
theorem dX2_playedNotes_10 : decode cX2_playedNotes 10 = .ok (.ireturn, 1) := by decide +kernel
theorem dX2_property_0 : decode cX2_property 0 = .ok (.iload_n 2, 1) := by decide +kernel
theorem dX2_property_1 : decode cX2_property 1 = .ok (.tableswitch 166 0 6 #[43, 52, 61, 68, 88, 110, 132], 43) := by decide +kernel
theorem dX2_property_44 : decode cX2_property 44 = .ok (.aload_n 0, 1) := by decide +kernel
theorem dX2_property_45 : decode cX2_property 45 = .ok (.getfield 14, 3) := by decide +kernel
theorem dX2_property_48 : decode cX2_property 48 = .ok (.iload_n 1, 1) := by decide +kernel
theorem dX2_property_49 : decode cX2_property 49 = .ok (.invokevirtual 36, 3) := by decide +kernel
theorem dX2_property_52 : decode cX2_property 52 = .ok (.ireturn, 1) := by decide +kernel
theorem dX2_property_53 : decode cX2_property 53 = .ok (.aload_n 0, 1) := by decide +kernel
theorem dX2_property_54 : decode cX2_property 54 = .ok (.getfield 20, 3) := by decide +kernel
theorem dX2_property_57 : decode cX2_property 57 = .ok (.iload_n 1, 1) := by decide +kernel
theorem dX2_property_58 : decode cX2_property 58 = .ok (.invokevirtual 36, 3) := by decide +kernel
theorem dX2_property_61 : decode cX2_property 61 = .ok (.ireturn, 1) := by decide +kernel
theorem dX2_property_62 : decode cX2_property 62 = .ok (.aload_n 0, 1) := by decide +kernel
theorem dX2_property_63 : decode cX2_property 63 = .ok (.iload_n 1, 1) := by decide +kernel
theorem dX2_property_64 : decode cX2_property 64 = .ok (.iload_n 3, 1) := by decide +kernel
theorem dX2_property_65 : decode cX2_property 65 = .ok (.invokevirtual 62, 3) := by decide +kernel
theorem dX2_property_68 : decode cX2_property 68 = .ok (.ireturn, 1) := by decide +kernel
theorem dX2_property_69 : decode cX2_property 69 = .ok (.aload_n 0, 1) := by decide +kernel
theorem dX2_property_70 : decode cX2_property 70 = .ok (.getfield 23, 3) := by decide +kernel
theorem dX2_property_73 : decode cX2_property 73 = .ok (.iload_n 1, 1) := by decide +kernel
theorem dX2_property_74 : decode cX2_property 74 = .ok (.invokevirtual 36, 3) := by decide +kernel
theorem dX2_property_77 : decode cX2_property 77 = .ok (.ifCond .eq 7, 3) := by decide +kernel
theorem dX2_property_80 : decode cX2_property 80 = .ok (.iconst 1, 1) := by decide +kernel
theorem dX2_property_81 : decode cX2_property 81 = .ok (.goto 4, 3) := by decide +kernel
theorem dX2_property_84 : decode cX2_property 84 = .ok (.iconst 0, 1) := by decide +kernel
theorem dX2_property_85 : decode cX2_property 85 = .ok (.invokestatic 72, 3) := by decide +kernel
theorem dX2_property_88 : decode cX2_property 88 = .ok (.ireturn, 1) := by decide +kernel
theorem dX2_property_89 : decode cX2_property 89 = .ok (.aload_n 0, 1) := by decide +kernel
theorem dX2_property_90 : decode cX2_property 90 = .ok (.iload_n 1, 1) := by decide +kernel
theorem dX2_property_91 : decode cX2_property 91 = .ok (.invokevirtual 76, 3) := by decide +kernel
theorem dX2_property_94 : decode cX2_property 94 = .ok (.ifCond .eq 14, 3) := by decide +kernel
theorem dX2_property_97 : decode cX2_property 97 = .ok (.aload_n 0, 1) := by decide +kernel
theorem dX2_property_98 : decode cX2_property 98 = .ok (.getfield 26, 3) := by decide +kernel
theorem dX2_property_101 : decode cX2_property 101 = .ok (.iload_n 1, 1) := by decide +kernel
theorem dX2_property_102 : decode cX2_property 102 = .ok (.invokevirtual 36, 3) := by decide +kernel
theorem dX2_property_105 : decode cX2_property 105 = .ok (.goto 5, 3) := by decide +kernel
theorem dX2_property_108 : decode cX2_property 108 = .ok (.ldc 80, 2) := by decide +kernel
theorem dX2_property_110 : decode cX2_property 110 = .ok (.ireturn, 1) := by decide +kernel
theorem dX2_property_111 : decode cX2_property 111 = .ok (.aload_n 0, 1) := by decide +kernel
theorem dX2_property_112 : decode cX2_property 112 = .ok (.iload_n 1, 1) := by decide +kernel
theorem dX2_property_113 : decode cX2_property 113 = .ok (.invokevirtual 76, 3) := by decide +kernel
theorem dX2_property_116 : decode cX2_property 116 = .ok (.ifCond .eq 14, 3) := by decide +kernel
theorem dX2_property_119 : decode cX2_property 119 = .ok (.aload_n 0, 1) := by decide +kernel
theorem dX2_property_120 : decode cX2_property 120 = .ok (.getfield 29, 3) := by decide +kernel
theorem dX2_property_123 : decode cX2_property 123 = .ok (.iload_n 1, 1) := by decide +kernel
theorem dX2_property_124 : decode cX2_property 124 = .ok (.invokevirtual 36, 3) := by decide +kernel
theorem dX2_property_127 : decode cX2_property 127 = .ok (.goto 5, 3) := by decide +kernel
theorem dX2_property_130 : decode cX2_property 130 = .ok (.ldc 80, 2) := by decide +kernel
theorem dX2_property_132 : decode cX2_property 132 = .ok (.ireturn, 1) := by decide +kernel
theorem dX2_property_133 : decode cX2_property 133 = .ok (.aload_n 0, 1) := by decide +kernel
theorem dX2_property_134 : decode cX2_property 134 = .ok (.iload_n 1, 1) := by decide +kernel
theorem dX2_property_135 : decode cX2_property 135 = .ok (.invokevirtual 76, 3) := by decide +kernel
theorem dX2_property_138 : decode cX2_property 138 = .ok (.ifCond .eq 26, 3) := by decide +kernel
theorem dX2_property_141 : decode cX2_property 141 = .ok (.aload_n 0, 1) := by decide +kernel
theorem dX2_property_142 : decode cX2_property 142 = .ok (.getfield 23, 3) := by decide +kernel
theorem dX2_property_145 : decode cX2_property 145 = .ok (.iload_n 1, 1) := by decide +kernel
theorem dX2_property_146 : decode cX2_property 146 = .ok (.invokevirtual 36, 3) := by decide +kernel
theorem dX2_property_149 : decode cX2_property 149 = .ok (.iconst 3, 1) := by decide +kernel
theorem dX2_property_150 : decode cX2_property 150 = .ok (.if_icmp .ne 7, 3) := by decide +kernel
theorem dX2_property_153 : decode cX2_property 153 = .ok (.iconst 1, 1) := by decide +kernel
theorem dX2_property_154 : decode cX2_property 154 = .ok (.goto 4, 3) := by decide +kernel
theorem dX2_property_157 : decode cX2_property 157 = .ok (.iconst 0, 1) := by decide +kernel
theorem dX2_property_158 : decode cX2_property 158 = .ok (.invokestatic 72, 3) := by decide +kernel
theorem dX2_property_161 : decode cX2_property 161 = .ok (.goto 5, 3) := by decide +kernel
theorem dX2_property_164 : decode cX2_property 164 = .ok (.ldc 80, 2) := by decide +kernel
theorem dX2_property_166 : decode cX2_property 166 = .ok (.ireturn, 1) := by decide +kernel
theorem dX2_property_167 : decode cX2_property 167 = .ok (.ldc 81, 2) := by decide +kernel
theorem dX2_property_169 : decode cX2_property 169 = .ok (.ireturn, 1) := by decide +kernel
theorem dX2_errorSize_0 : decode cX2_errorSize 0 = .ok (.aload_n 0, 1) := by decide +kernel
theorem dX2_errorSize_1 : decode cX2_errorSize 1 = .ok (.getfield 29, 3) := by decide +kernel
theorem dX2_errorSize_4 : decode cX2_errorSize 4 = .ok (.iload_n 1, 1) := by decide +kernel
theorem dX2_errorSize_5 : decode cX2_errorSize 5 = .ok (.invokevirtual 36, 3) := by decide +kernel
theorem dX2_errorSize_8 : decode cX2_errorSize 8 = .ok (.invokestatic 82, 3) := by decide +kernel
theorem dX2_errorSize_11 : decode cX2_errorSize 11 = .ok (.ireturn, 1) := by decide +kernel
theorem dX2_noteAtRank_0 : decode cX2_noteAtRank 0 = .ok (.iconst 0, 1) := by decide +kernel
theorem dX2_noteAtRank_1 : decode cX2_noteAtRank 1 = .ok (.istore_n 2, 1) := by decide +kernel
theorem dX2_noteAtRank_2 : decode cX2_noteAtRank 2 = .ok (.iload_n 2, 1) := by decide +kernel
theorem dX2_noteAtRank_3 : decode cX2_noteAtRank 3 = .ok (.aload_n 0, 1) := by decide +kernel
theorem dX2_noteAtRank_4 : decode cX2_noteAtRank 4 = .ok (.getfield 32, 3) := by decide +kernel
theorem dX2_noteAtRank_7 : decode cX2_noteAtRank 7 = .ok (.if_icmp .ge 28, 3) := by decide +kernel
theorem dX2_noteAtRank_10 : decode cX2_noteAtRank 10 = .ok (.aload_n 0, 1) := by decide +kernel
theorem dX2_noteAtRank_11 : decode cX2_noteAtRank 11 = .ok (.iload_n 2, 1) := by decide +kernel
theorem dX2_noteAtRank_12 : decode cX2_noteAtRank 12 = .ok (.invokevirtual 76, 3) := by decide +kernel
theorem dX2_noteAtRank_15 : decode cX2_noteAtRank 15 = .ok (.ifCond .eq 14, 3) := by decide +kernel
theorem dX2_noteAtRank_18 : decode cX2_noteAtRank 18 = .ok (.aload_n 0, 1) := by decide +kernel
theorem dX2_noteAtRank_19 : decode cX2_noteAtRank 19 = .ok (.iload_n 2, 1) := by decide +kernel
theorem dX2_noteAtRank_20 : decode cX2_noteAtRank 20 = .ok (.invokevirtual 87, 3) := by decide +kernel
theorem dX2_noteAtRank_23 : decode cX2_noteAtRank 23 = .ok (.iload_n 1, 1) := by decide +kernel
theorem dX2_noteAtRank_24 : decode cX2_noteAtRank 24 = .ok (.if_icmp .ne 5, 3) := by decide +kernel
theorem dX2_noteAtRank_27 : decode cX2_noteAtRank 27 = .ok (.iload_n 2, 1) := by decide +kernel
theorem dX2_noteAtRank_28 : decode cX2_noteAtRank 28 = .ok (.ireturn, 1) := by decide +kernel
theorem dX2_noteAtRank_29 : decode cX2_noteAtRank 29 = .ok (.iinc 2 1, 3) := by decide +kernel
theorem dX2_noteAtRank_32 : decode cX2_noteAtRank 32 = .ok (.goto (-30), 3) := by decide +kernel
theorem dX2_noteAtRank_35 : decode cX2_noteAtRank 35 = .ok (.iconst (-1), 1) := by decide +kernel
theorem dX2_noteAtRank_36 : decode cX2_noteAtRank 36 = .ok (.ireturn, 1) := by decide +kernel
theorem dX2_rankOf_0 : decode cX2_rankOf 0 = .ok (.iconst 0, 1) := by decide +kernel
theorem dX2_rankOf_1 : decode cX2_rankOf 1 = .ok (.istore_n 2, 1) := by decide +kernel
theorem dX2_rankOf_2 : decode cX2_rankOf 2 = .ok (.iconst 0, 1) := by decide +kernel
theorem dX2_rankOf_3 : decode cX2_rankOf 3 = .ok (.istore_n 3, 1) := by decide +kernel
theorem dX2_rankOf_4 : decode cX2_rankOf 4 = .ok (.iload_n 3, 1) := by decide +kernel
theorem dX2_rankOf_5 : decode cX2_rankOf 5 = .ok (.aload_n 0, 1) := by decide +kernel
theorem dX2_rankOf_6 : decode cX2_rankOf 6 = .ok (.getfield 32, 3) := by decide +kernel
theorem dX2_rankOf_9 : decode cX2_rankOf 9 = .ok (.if_icmp .ge 75, 3) := by decide +kernel
theorem dX2_rankOf_12 : decode cX2_rankOf 12 = .ok (.aload_n 0, 1) := by decide +kernel
theorem dX2_rankOf_13 : decode cX2_rankOf 13 = .ok (.iload_n 3, 1) := by decide +kernel
theorem dX2_rankOf_14 : decode cX2_rankOf 14 = .ok (.invokevirtual 90, 3) := by decide +kernel
theorem dX2_rankOf_17 : decode cX2_rankOf 17 = .ok (.aload_n 0, 1) := by decide +kernel
theorem dX2_rankOf_18 : decode cX2_rankOf 18 = .ok (.iload_n 1, 1) := by decide +kernel
theorem dX2_rankOf_19 : decode cX2_rankOf 19 = .ok (.invokevirtual 90, 3) := by decide +kernel
theorem dX2_rankOf_22 : decode cX2_rankOf 22 = .ok (.if_icmp .le 7, 3) := by decide +kernel
theorem dX2_rankOf_25 : decode cX2_rankOf 25 = .ok (.iconst 1, 1) := by decide +kernel
theorem dX2_rankOf_26 : decode cX2_rankOf 26 = .ok (.goto 4, 3) := by decide +kernel
theorem dX2_rankOf_29 : decode cX2_rankOf 29 = .ok (.iconst 0, 1) := by decide +kernel
theorem dX2_rankOf_30 : decode cX2_rankOf 30 = .ok (.istore 4, 2) := by decide +kernel
theorem dX2_rankOf_32 : decode cX2_rankOf 32 = .ok (.aload_n 0, 1) := by decide +kernel
theorem dX2_rankOf_33 : decode cX2_rankOf 33 = .ok (.iload_n 3, 1) := by decide +kernel
theorem dX2_rankOf_34 : decode cX2_rankOf 34 = .ok (.invokevirtual 90, 3) := by decide +kernel
theorem dX2_rankOf_37 : decode cX2_rankOf 37 = .ok (.aload_n 0, 1) := by decide +kernel
theorem dX2_rankOf_38 : decode cX2_rankOf 38 = .ok (.iload_n 1, 1) := by decide +kernel
theorem dX2_rankOf_39 : decode cX2_rankOf 39 = .ok (.invokevirtual 90, 3) := by decide +kernel
theorem dX2_rankOf_42 : decode cX2_rankOf 42 = .ok (.if_icmp .ne 12, 3) := by decide +kernel
theorem dX2_rankOf_45 : decode cX2_rankOf 45 = .ok (.iload_n 3, 1) := by decide +kernel
theorem dX2_rankOf_46 : decode cX2_rankOf 46 = .ok (.iload_n 1, 1) := by decide +kernel
theorem dX2_rankOf_47 : decode cX2_rankOf 47 = .ok (.if_icmp .ge 7, 3) := by decide +kernel
theorem dX2_rankOf_50 : decode cX2_rankOf 50 = .ok (.iconst 1, 1) := by decide +kernel
theorem dX2_rankOf_51 : decode cX2_rankOf 51 = .ok (.goto 4, 3) := by decide +kernel
theorem dX2_rankOf_54 : decode cX2_rankOf 54 = .ok (.iconst 0, 1) := by decide +kernel
theorem dX2_rankOf_55 : decode cX2_rankOf 55 = .ok (.istore 5, 2) := by decide +kernel
theorem dX2_rankOf_57 : decode cX2_rankOf 57 = .ok (.aload_n 0, 1) := by decide +kernel
theorem dX2_rankOf_58 : decode cX2_rankOf 58 = .ok (.iload_n 3, 1) := by decide +kernel
theorem dX2_rankOf_59 : decode cX2_rankOf 59 = .ok (.invokevirtual 76, 3) := by decide +kernel
theorem dX2_rankOf_62 : decode cX2_rankOf 62 = .ok (.ifCond .eq 16, 3) := by decide +kernel
theorem dX2_rankOf_65 : decode cX2_rankOf 65 = .ok (.iload 4, 2) := by decide +kernel
theorem dX2_rankOf_67 : decode cX2_rankOf 67 = .ok (.ifCond .ne 8, 3) := by decide +kernel
theorem dX2_rankOf_70 : decode cX2_rankOf 70 = .ok (.iload 5, 2) := by decide +kernel
theorem dX2_rankOf_72 : decode cX2_rankOf 72 = .ok (.ifCond .eq 6, 3) := by decide +kernel
theorem dX2_rankOf_75 : decode cX2_rankOf 75 = .ok (.iinc 2 1, 3) := by decide +kernel
theorem dX2_rankOf_78 : decode cX2_rankOf 78 = .ok (.iinc 3 1, 3) := by decide +kernel
theorem dX2_rankOf_81 : decode cX2_rankOf 81 = .ok (.goto (-77), 3) := by decide +kernel
theorem dX2_rankOf_84 : decode cX2_rankOf 84 = .ok (.iload_n 2, 1) := by decide +kernel
theorem dX2_rankOf_85 : decode cX2_rankOf 85 = .ok (.ireturn, 1) := by decide +kernel
theorem dX2_firstFalseAfter_0 : decode cX2_firstFalseAfter 0 = .ok (.iconst 0, 1) := by decide +kernel
theorem dX2_firstFalseAfter_1 : decode cX2_firstFalseAfter 1 = .ok (.istore_n 2, 1) := by decide +kernel
theorem dX2_firstFalseAfter_2 : decode cX2_firstFalseAfter 2 = .ok (.iload_n 2, 1) := by decide +kernel
theorem dX2_firstFalseAfter_3 : decode cX2_firstFalseAfter 3 = .ok (.aload_n 0, 1) := by decide +kernel
theorem dX2_firstFalseAfter_4 : decode cX2_firstFalseAfter 4 = .ok (.getfield 32, 3) := by decide +kernel
theorem dX2_firstFalseAfter_7 : decode cX2_firstFalseAfter 7 = .ok (.if_icmp .ge 35, 3) := by decide +kernel
theorem dX2_firstFalseAfter_10 : decode cX2_firstFalseAfter 10 = .ok (.aload_n 0, 1) := by decide +kernel
theorem dX2_firstFalseAfter_11 : decode cX2_firstFalseAfter 11 = .ok (.getfield 14, 3) := by decide +kernel
theorem dX2_firstFalseAfter_14 : decode cX2_firstFalseAfter 14 = .ok (.iload_n 2, 1) := by decide +kernel
theorem dX2_firstFalseAfter_15 : decode cX2_firstFalseAfter 15 = .ok (.invokevirtual 36, 3) := by decide +kernel
theorem dX2_firstFalseAfter_18 : decode cX2_firstFalseAfter 18 = .ok (.iload_n 1, 1) := by decide +kernel
theorem dX2_firstFalseAfter_19 : decode cX2_firstFalseAfter 19 = .ok (.if_icmp .le 17, 3) := by decide +kernel
theorem dX2_firstFalseAfter_22 : decode cX2_firstFalseAfter 22 = .ok (.aload_n 0, 1) := by decide +kernel
theorem dX2_firstFalseAfter_23 : decode cX2_firstFalseAfter 23 = .ok (.getfield 23, 3) := by decide +kernel
theorem dX2_firstFalseAfter_26 : decode cX2_firstFalseAfter 26 = .ok (.iload_n 2, 1) := by decide +kernel
theorem dX2_firstFalseAfter_27 : decode cX2_firstFalseAfter 27 = .ok (.invokevirtual 36, 3) := by decide +kernel
theorem dX2_firstFalseAfter_30 : decode cX2_firstFalseAfter 30 = .ok (.iconst 2, 1) := by decide +kernel
theorem dX2_firstFalseAfter_31 : decode cX2_firstFalseAfter 31 = .ok (.if_icmp .ne 5, 3) := by decide +kernel
theorem dX2_firstFalseAfter_34 : decode cX2_firstFalseAfter 34 = .ok (.iload_n 2, 1) := by decide +kernel
theorem dX2_firstFalseAfter_35 : decode cX2_firstFalseAfter 35 = .ok (.ireturn, 1) := by decide +kernel
theorem dX2_firstFalseAfter_36 : decode cX2_firstFalseAfter 36 = .ok (.iinc 2 1, 3) := by decide +kernel
theorem dX2_firstFalseAfter_39 : decode cX2_firstFalseAfter 39 = .ok (.goto (-37), 3) := by decide +kernel
theorem dX2_firstFalseAfter_42 : decode cX2_firstFalseAfter 42 = .ok (.iconst (-1), 1) := by decide +kernel
theorem dX2_firstFalseAfter_43 : decode cX2_firstFalseAfter 43 = .ok (.ireturn, 1) := by decide +kernel
theorem dX2_greatestErrorAfter_0 : decode cX2_greatestErrorAfter 0 = .ok (.iconst (-1), 1) := by decide +kernel
theorem dX2_greatestErrorAfter_1 : decode cX2_greatestErrorAfter 1 = .ok (.istore_n 2, 1) := by decide +kernel
theorem dX2_greatestErrorAfter_2 : decode cX2_greatestErrorAfter 2 = .ok (.iconst 0, 1) := by decide +kernel
theorem dX2_greatestErrorAfter_3 : decode cX2_greatestErrorAfter 3 = .ok (.istore_n 3, 1) := by decide +kernel
theorem dX2_greatestErrorAfter_4 : decode cX2_greatestErrorAfter 4 = .ok (.iload_n 3, 1) := by decide +kernel
theorem dX2_greatestErrorAfter_5 : decode cX2_greatestErrorAfter 5 = .ok (.aload_n 0, 1) := by decide +kernel
theorem dX2_greatestErrorAfter_6 : decode cX2_greatestErrorAfter 6 = .ok (.getfield 32, 3) := by decide +kernel
theorem dX2_greatestErrorAfter_9 : decode cX2_greatestErrorAfter 9 = .ok (.if_icmp .ge 39, 3) := by decide +kernel
theorem dX2_greatestErrorAfter_12 : decode cX2_greatestErrorAfter 12 = .ok (.aload_n 0, 1) := by decide +kernel
theorem dX2_greatestErrorAfter_13 : decode cX2_greatestErrorAfter 13 = .ok (.getfield 14, 3) := by decide +kernel
theorem dX2_greatestErrorAfter_16 : decode cX2_greatestErrorAfter 16 = .ok (.iload_n 3, 1) := by decide +kernel
theorem dX2_greatestErrorAfter_17 : decode cX2_greatestErrorAfter 17 = .ok (.invokevirtual 36, 3) := by decide +kernel
theorem dX2_greatestErrorAfter_20 : decode cX2_greatestErrorAfter 20 = .ok (.iload_n 1, 1) := by decide +kernel
theorem dX2_greatestErrorAfter_21 : decode cX2_greatestErrorAfter 21 = .ok (.if_icmp .le 21, 3) := by decide +kernel
theorem dX2_greatestErrorAfter_24 : decode cX2_greatestErrorAfter 24 = .ok (.aload_n 0, 1) := by decide +kernel
theorem dX2_greatestErrorAfter_25 : decode cX2_greatestErrorAfter 25 = .ok (.iload_n 3, 1) := by decide +kernel
theorem dX2_greatestErrorAfter_26 : decode cX2_greatestErrorAfter 26 = .ok (.invokevirtual 76, 3) := by decide +kernel
theorem dX2_greatestErrorAfter_29 : decode cX2_greatestErrorAfter 29 = .ok (.ifCond .eq 13, 3) := by decide +kernel
theorem dX2_greatestErrorAfter_32 : decode cX2_greatestErrorAfter 32 = .ok (.iload_n 2, 1) := by decide +kernel
theorem dX2_greatestErrorAfter_33 : decode cX2_greatestErrorAfter 33 = .ok (.aload_n 0, 1) := by decide +kernel
theorem dX2_greatestErrorAfter_34 : decode cX2_greatestErrorAfter 34 = .ok (.iload_n 3, 1) := by decide +kernel
theorem dX2_greatestErrorAfter_35 : decode cX2_greatestErrorAfter 35 = .ok (.invokevirtual 90, 3) := by decide +kernel
theorem dX2_greatestErrorAfter_38 : decode cX2_greatestErrorAfter 38 = .ok (.invokestatic 93, 3) := by decide +kernel
theorem dX2_greatestErrorAfter_41 : decode cX2_greatestErrorAfter 41 = .ok (.istore_n 2, 1) := by decide +kernel
theorem dX2_greatestErrorAfter_42 : decode cX2_greatestErrorAfter 42 = .ok (.iinc 3 1, 3) := by decide +kernel
theorem dX2_greatestErrorAfter_45 : decode cX2_greatestErrorAfter 45 = .ok (.goto (-41), 3) := by decide +kernel
theorem dX2_greatestErrorAfter_48 : decode cX2_greatestErrorAfter 48 = .ok (.iload_n 2, 1) := by decide +kernel
theorem dX2_greatestErrorAfter_49 : decode cX2_greatestErrorAfter 49 = .ok (.ireturn, 1) := by decide +kernel
theorem dX2_copyFrom_0 : decode cX2_copyFrom 0 = .ok (.aload_n 1, 1) := by decide +kernel
theorem dX2_copyFrom_1 : decode cX2_copyFrom 1 = .ok (.ifnonnull 4, 3) := by decide +kernel
theorem dX2_copyFrom_4 : decode cX2_copyFrom 4 = .ok (.return_, 1) := by decide +kernel
theorem dX2_copyFrom_5 : decode cX2_copyFrom 5 = .ok (.aload_n 0, 1) := by decide +kernel
theorem dX2_copyFrom_6 : decode cX2_copyFrom 6 = .ok (.getfield 14, 3) := by decide +kernel
theorem dX2_copyFrom_9 : decode cX2_copyFrom 9 = .ok (.aload_n 1, 1) := by decide +kernel
theorem dX2_copyFrom_10 : decode cX2_copyFrom 10 = .ok (.getfield 14, 3) := by decide +kernel
theorem dX2_copyFrom_13 : decode cX2_copyFrom 13 = .ok (.invokevirtual 96, 3) := by decide +kernel
theorem dX2_copyFrom_16 : decode cX2_copyFrom 16 = .ok (.aload_n 0, 1) := by decide +kernel
theorem dX2_copyFrom_17 : decode cX2_copyFrom 17 = .ok (.getfield 20, 3) := by decide +kernel
theorem dX2_copyFrom_20 : decode cX2_copyFrom 20 = .ok (.aload_n 1, 1) := by decide +kernel
theorem dX2_copyFrom_21 : decode cX2_copyFrom 21 = .ok (.getfield 20, 3) := by decide +kernel
theorem dX2_copyFrom_24 : decode cX2_copyFrom 24 = .ok (.invokevirtual 96, 3) := by decide +kernel
theorem dX2_copyFrom_27 : decode cX2_copyFrom 27 = .ok (.aload_n 0, 1) := by decide +kernel
theorem dX2_copyFrom_28 : decode cX2_copyFrom 28 = .ok (.getfield 23, 3) := by decide +kernel
theorem dX2_copyFrom_31 : decode cX2_copyFrom 31 = .ok (.aload_n 1, 1) := by decide +kernel
theorem dX2_copyFrom_32 : decode cX2_copyFrom 32 = .ok (.getfield 23, 3) := by decide +kernel
theorem dX2_copyFrom_35 : decode cX2_copyFrom 35 = .ok (.invokevirtual 96, 3) := by decide +kernel
theorem dX2_copyFrom_38 : decode cX2_copyFrom 38 = .ok (.aload_n 0, 1) := by decide +kernel
theorem dX2_copyFrom_39 : decode cX2_copyFrom 39 = .ok (.getfield 26, 3) := by decide +kernel
theorem dX2_copyFrom_42 : decode cX2_copyFrom 42 = .ok (.aload_n 1, 1) := by decide +kernel
theorem dX2_copyFrom_43 : decode cX2_copyFrom 43 = .ok (.getfield 26, 3) := by decide +kernel
theorem dX2_copyFrom_46 : decode cX2_copyFrom 46 = .ok (.invokevirtual 96, 3) := by decide +kernel
theorem dX2_copyFrom_49 : decode cX2_copyFrom 49 = .ok (.aload_n 0, 1) := by decide +kernel
theorem dX2_copyFrom_50 : decode cX2_copyFrom 50 = .ok (.getfield 29, 3) := by decide +kernel
theorem dX2_copyFrom_53 : decode cX2_copyFrom 53 = .ok (.aload_n 1, 1) := by decide +kernel
theorem dX2_copyFrom_54 : decode cX2_copyFrom 54 = .ok (.getfield 29, 3) := by decide +kernel
theorem dX2_copyFrom_57 : decode cX2_copyFrom 57 = .ok (.invokevirtual 96, 3) := by decide +kernel
theorem dX2_copyFrom_60 : decode cX2_copyFrom 60 = .ok (.aload_n 0, 1) := by decide +kernel
theorem dX2_copyFrom_61 : decode cX2_copyFrom 61 = .ok (.aload_n 1, 1) := by decide +kernel
theorem dX2_copyFrom_62 : decode cX2_copyFrom 62 = .ok (.getfield 32, 3) := by decide +kernel
theorem dX2_copyFrom_65 : decode cX2_copyFrom 65 = .ok (.putfield 32, 3) := by decide +kernel
theorem dX2_copyFrom_68 : decode cX2_copyFrom 68 = .ok (.return_, 1) := by decide +kernel
theorem dX3_init_0 : decode cX3_init 0 = .ok (.aload_n 0, 1) := by decide +kernel
theorem dX3_init_1 : decode cX3_init 1 = .ok (.invokespecial 1, 3) := by decide +kernel
theorem dX3_init_4 : decode cX3_init 4 = .ok (.aload_n 0, 1) := by decide +kernel
theorem dX3_init_5 : decode cX3_init 5 = .ok (.iload_n 1, 1) := by decide +kernel
theorem dX3_init_6 : decode cX3_init 6 = .ok (.iconst 0, 1) := by decide +kernel
theorem dX3_init_7 : decode cX3_init 7 = .ok (.invokestatic 7, 3) := by decide +kernel
theorem dX3_init_10 : decode cX3_init 10 = .ok (.newarray .int, 2) := by decide +kernel
theorem dX3_init_12 : decode cX3_init 12 = .ok (.putfield 13, 3) := by decide +kernel
theorem dX3_init_15 : decode cX3_init 15 = .ok (.return_, 1) := by decide +kernel
theorem dX3_get_0 : decode cX3_get 0 = .ok (.iload_n 1, 1) := by decide +kernel
theorem dX3_get_1 : decode cX3_get 1 = .ok (.ifCond .lt 21, 3) := by decide +kernel
theorem dX3_get_4 : decode cX3_get 4 = .ok (.iload_n 1, 1) := by decide +kernel
theorem dX3_get_5 : decode cX3_get 5 = .ok (.aload_n 0, 1) := by decide +kernel
theorem dX3_get_6 : decode cX3_get 6 = .ok (.getfield 13, 3) := by decide +kernel
theorem dX3_get_9 : decode cX3_get 9 = .ok (.arraylength, 1) := by decide +kernel
theorem dX3_get_10 : decode cX3_get 10 = .ok (.if_icmp .ge 12, 3) := by decide +kernel
theorem dX3_get_13 : decode cX3_get 13 = .ok (.aload_n 0, 1) := by decide +kernel
theorem dX3_get_14 : decode cX3_get 14 = .ok (.getfield 13, 3) := by decide +kernel
theorem dX3_get_17 : decode cX3_get 17 = .ok (.iload_n 1, 1) := by decide +kernel
theorem dX3_get_18 : decode cX3_get 18 = .ok (.iaload, 1) := by decide +kernel
theorem dX3_get_19 : decode cX3_get 19 = .ok (.goto 4, 3) := by decide +kernel
theorem dX3_get_22 : decode cX3_get 22 = .ok (.iconst 0, 1) := by decide +kernel
theorem dX3_get_23 : decode cX3_get 23 = .ok (.ireturn, 1) := by decide +kernel
theorem dX3_put_0 : decode cX3_put 0 = .ok (.iload_n 1, 1) := by decide +kernel
theorem dX3_put_1 : decode cX3_put 1 = .ok (.ifCond .lt 19, 3) := by decide +kernel
theorem dX3_put_4 : decode cX3_put 4 = .ok (.iload_n 1, 1) := by decide +kernel
theorem dX3_put_5 : decode cX3_put 5 = .ok (.aload_n 0, 1) := by decide +kernel
theorem dX3_put_6 : decode cX3_put 6 = .ok (.getfield 13, 3) := by decide +kernel
theorem dX3_put_9 : decode cX3_put 9 = .ok (.arraylength, 1) := by decide +kernel
theorem dX3_put_10 : decode cX3_put 10 = .ok (.if_icmp .ge 10, 3) := by decide +kernel
theorem dX3_put_13 : decode cX3_put 13 = .ok (.aload_n 0, 1) := by decide +kernel
theorem dX3_put_14 : decode cX3_put 14 = .ok (.getfield 13, 3) := by decide +kernel
theorem dX3_put_17 : decode cX3_put 17 = .ok (.iload_n 1, 1) := by decide +kernel
theorem dX3_put_18 : decode cX3_put 18 = .ok (.iload_n 2, 1) := by decide +kernel
theorem dX3_put_19 : decode cX3_put 19 = .ok (.iastore, 1) := by decide +kernel
theorem dX3_put_20 : decode cX3_put 20 = .ok (.return_, 1) := by decide +kernel
theorem dX3_add_0 : decode cX3_add 0 = .ok (.aload_n 0, 1) := by decide +kernel
theorem dX3_add_1 : decode cX3_add 1 = .ok (.iload_n 1, 1) := by decide +kernel
theorem dX3_add_2 : decode cX3_add 2 = .ok (.aload_n 0, 1) := by decide +kernel
theorem dX3_add_3 : decode cX3_add 3 = .ok (.iload_n 1, 1) := by decide +kernel
theorem dX3_add_4 : decode cX3_add 4 = .ok (.invokevirtual 19, 3) := by decide +kernel
theorem dX3_add_7 : decode cX3_add 7 = .ok (.iload_n 2, 1) := by decide +kernel
theorem dX3_add_8 : decode cX3_add 8 = .ok (.iadd, 1) := by decide +kernel
theorem dX3_add_9 : decode cX3_add 9 = .ok (.invokevirtual 23, 3) := by decide +kernel
theorem dX3_add_12 : decode cX3_add 12 = .ok (.return_, 1) := by decide +kernel
theorem dX3_insert_0 : decode cX3_insert 0 = .ok (.iload_n 3, 1) := by decide +kernel
theorem dX3_insert_1 : decode cX3_insert 1 = .ok (.istore 4, 2) := by decide +kernel
theorem dX3_insert_3 : decode cX3_insert 3 = .ok (.iload 4, 2) := by decide +kernel
theorem dX3_insert_5 : decode cX3_insert 5 = .ok (.iload_n 1, 1) := by decide +kernel
theorem dX3_insert_6 : decode cX3_insert 6 = .ok (.if_icmp .le 23, 3) := by decide +kernel
theorem dX3_insert_9 : decode cX3_insert 9 = .ok (.aload_n 0, 1) := by decide +kernel
theorem dX3_insert_10 : decode cX3_insert 10 = .ok (.iload 4, 2) := by decide +kernel
theorem dX3_insert_12 : decode cX3_insert 12 = .ok (.aload_n 0, 1) := by decide +kernel
theorem dX3_insert_13 : decode cX3_insert 13 = .ok (.iload 4, 2) := by decide +kernel
theorem dX3_insert_15 : decode cX3_insert 15 = .ok (.iconst 1, 1) := by decide +kernel
theorem dX3_insert_16 : decode cX3_insert 16 = .ok (.isub, 1) := by decide +kernel
theorem dX3_insert_17 : decode cX3_insert 17 = .ok (.invokevirtual 19, 3) := by decide +kernel
theorem dX3_insert_20 : decode cX3_insert 20 = .ok (.invokevirtual 23, 3) := by decide +kernel
theorem dX3_insert_23 : decode cX3_insert 23 = .ok (.iinc 4 (-1), 3) := by decide +kernel
theorem dX3_insert_26 : decode cX3_insert 26 = .ok (.goto (-23), 3) := by decide +kernel
theorem dX3_insert_29 : decode cX3_insert 29 = .ok (.aload_n 0, 1) := by decide +kernel
theorem dX3_insert_30 : decode cX3_insert 30 = .ok (.iload_n 1, 1) := by decide +kernel
theorem dX3_insert_31 : decode cX3_insert 31 = .ok (.iload_n 2, 1) := by decide +kernel
theorem dX3_insert_32 : decode cX3_insert 32 = .ok (.invokevirtual 23, 3) := by decide +kernel
theorem dX3_insert_35 : decode cX3_insert 35 = .ok (.return_, 1) := by decide +kernel
theorem dX3_delete_0 : decode cX3_delete 0 = .ok (.iload_n 1, 1) := by decide +kernel
theorem dX3_delete_1 : decode cX3_delete 1 = .ok (.istore_n 3, 1) := by decide +kernel
theorem dX3_delete_2 : decode cX3_delete 2 = .ok (.iload_n 3, 1) := by decide +kernel
theorem dX3_delete_3 : decode cX3_delete 3 = .ok (.iload_n 2, 1) := by decide +kernel
theorem dX3_delete_4 : decode cX3_delete 4 = .ok (.iconst 1, 1) := by decide +kernel
theorem dX3_delete_5 : decode cX3_delete 5 = .ok (.isub, 1) := by decide +kernel
theorem dX3_delete_6 : decode cX3_delete 6 = .ok (.if_icmp .ge 21, 3) := by decide +kernel
theorem dX3_delete_9 : decode cX3_delete 9 = .ok (.aload_n 0, 1) := by decide +kernel
theorem dX3_delete_10 : decode cX3_delete 10 = .ok (.iload_n 3, 1) := by decide +kernel
theorem dX3_delete_11 : decode cX3_delete 11 = .ok (.aload_n 0, 1) := by decide +kernel
theorem dX3_delete_12 : decode cX3_delete 12 = .ok (.iload_n 3, 1) := by decide +kernel
theorem dX3_delete_13 : decode cX3_delete 13 = .ok (.iconst 1, 1) := by decide +kernel
theorem dX3_delete_14 : decode cX3_delete 14 = .ok (.iadd, 1) := by decide +kernel
theorem dX3_delete_15 : decode cX3_delete 15 = .ok (.invokevirtual 19, 3) := by decide +kernel
theorem dX3_delete_18 : decode cX3_delete 18 = .ok (.invokevirtual 23, 3) := by decide +kernel
theorem dX3_delete_21 : decode cX3_delete 21 = .ok (.iinc 3 1, 3) := by decide +kernel
theorem dX3_delete_24 : decode cX3_delete 24 = .ok (.goto (-22), 3) := by decide +kernel
theorem dX3_delete_27 : decode cX3_delete 27 = .ok (.return_, 1) := by decide +kernel
theorem dX3_copyFrom_0 : decode cX3_copyFrom 0 = .ok (.aload_n 1, 1) := by decide +kernel
theorem dX3_copyFrom_1 : decode cX3_copyFrom 1 = .ok (.ifnull 29, 3) := by decide +kernel
theorem dX3_copyFrom_4 : decode cX3_copyFrom 4 = .ok (.aload_n 1, 1) := by decide +kernel
theorem dX3_copyFrom_5 : decode cX3_copyFrom 5 = .ok (.getfield 13, 3) := by decide +kernel
theorem dX3_copyFrom_8 : decode cX3_copyFrom 8 = .ok (.iconst 0, 1) := by decide +kernel
theorem dX3_copyFrom_9 : decode cX3_copyFrom 9 = .ok (.aload_n 0, 1) := by decide +kernel
theorem dX3_copyFrom_10 : decode cX3_copyFrom 10 = .ok (.getfield 13, 3) := by decide +kernel
theorem dX3_copyFrom_13 : decode cX3_copyFrom 13 = .ok (.iconst 0, 1) := by decide +kernel
theorem dX3_copyFrom_14 : decode cX3_copyFrom 14 = .ok (.aload_n 1, 1) := by decide +kernel
theorem dX3_copyFrom_15 : decode cX3_copyFrom 15 = .ok (.getfield 13, 3) := by decide +kernel
theorem dX3_copyFrom_18 : decode cX3_copyFrom 18 = .ok (.arraylength, 1) := by decide +kernel
theorem dX3_copyFrom_19 : decode cX3_copyFrom 19 = .ok (.aload_n 0, 1) := by decide +kernel
theorem dX3_copyFrom_20 : decode cX3_copyFrom 20 = .ok (.getfield 13, 3) := by decide +kernel
theorem dX3_copyFrom_23 : decode cX3_copyFrom 23 = .ok (.arraylength, 1) := by decide +kernel
theorem dX3_copyFrom_24 : decode cX3_copyFrom 24 = .ok (.invokestatic 27, 3) := by decide +kernel
theorem dX3_copyFrom_27 : decode cX3_copyFrom 27 = .ok (.invokestatic 30, 3) := by decide +kernel
theorem dX3_copyFrom_30 : decode cX3_copyFrom 30 = .ok (.return_, 1) := by decide +kernel
theorem dX4_init_0 : decode cX4_init 0 = .ok (.aload_n 0, 1) := by decide +kernel
theorem dX4_init_1 : decode cX4_init 1 = .ok (.invokespecial 3, 3) := by decide +kernel
theorem dX4_init_4 : decode cX4_init 4 = .ok (.aload_n 0, 1) := by decide +kernel
theorem dX4_init_5 : decode cX4_init 5 = .ok (.new 9, 3) := by decide +kernel
theorem dX4_init_8 : decode cX4_init 8 = .ok (.dup, 1) := by decide +kernel
theorem dX4_init_9 : decode cX4_init 9 = .ok (.invokespecial 11, 3) := by decide +kernel
theorem dX4_init_12 : decode cX4_init 12 = .ok (.putfield 12, 3) := by decide +kernel
theorem dX4_init_15 : decode cX4_init 15 = .ok (.aload_n 0, 1) := by decide +kernel
theorem dX4_init_16 : decode cX4_init 16 = .ok (.new 18, 3) := by decide +kernel
theorem dX4_init_19 : decode cX4_init 19 = .ok (.dup, 1) := by decide +kernel
theorem dX4_init_20 : decode cX4_init 20 = .ok (.invokespecial 20, 3) := by decide +kernel
theorem dX4_init_23 : decode cX4_init 23 = .ok (.putfield 21, 3) := by decide +kernel
theorem dX4_init_26 : decode cX4_init 26 = .ok (.aload_n 0, 1) := by decide +kernel
theorem dX4_init_27 : decode cX4_init 27 = .ok (.new 25, 3) := by decide +kernel
theorem dX4_init_30 : decode cX4_init 30 = .ok (.dup, 1) := by decide +kernel
theorem dX4_init_31 : decode cX4_init 31 = .ok (.iconst 4, 1) := by decide +kernel
theorem dX4_init_32 : decode cX4_init 32 = .ok (.invokespecial 27, 3) := by decide +kernel
theorem dX4_init_35 : decode cX4_init 35 = .ok (.putfield 30, 3) := by decide +kernel
theorem dX4_init_38 : decode cX4_init 38 = .ok (.aload_n 0, 1) := by decide +kernel
theorem dX4_init_39 : decode cX4_init 39 = .ok (.iconst 0, 1) := by decide +kernel
theorem dX4_init_40 : decode cX4_init 40 = .ok (.putfield 34, 3) := by decide +kernel
theorem dX4_init_43 : decode cX4_init 43 = .ok (.aload_n 0, 1) := by decide +kernel
theorem dX4_init_44 : decode cX4_init 44 = .ok (.getfield 30, 3) := by decide +kernel
theorem dX4_init_47 : decode cX4_init 47 = .ok (.iconst 0, 1) := by decide +kernel
theorem dX4_init_48 : decode cX4_init 48 = .ok (.bipush 60, 2) := by decide +kernel
theorem dX4_init_50 : decode cX4_init 50 = .ok (.invokevirtual 38, 3) := by decide +kernel
theorem dX4_init_53 : decode cX4_init 53 = .ok (.aload_n 0, 1) := by decide +kernel
theorem dX4_init_54 : decode cX4_init 54 = .ok (.getfield 30, 3) := by decide +kernel
theorem dX4_init_57 : decode cX4_init 57 = .ok (.iconst 1, 1) := by decide +kernel
theorem dX4_init_58 : decode cX4_init 58 = .ok (.bipush 10, 2) := by decide +kernel
theorem dX4_init_60 : decode cX4_init 60 = .ok (.invokevirtual 38, 3) := by decide +kernel
theorem dX4_init_63 : decode cX4_init 63 = .ok (.aload_n 0, 1) := by decide +kernel
theorem dX4_init_64 : decode cX4_init 64 = .ok (.getfield 30, 3) := by decide +kernel
theorem dX4_init_67 : decode cX4_init 67 = .ok (.iconst 2, 1) := by decide +kernel
theorem dX4_init_68 : decode cX4_init 68 = .ok (.bipush 10, 2) := by decide +kernel
theorem dX4_init_70 : decode cX4_init 70 = .ok (.invokevirtual 38, 3) := by decide +kernel
theorem dX4_init_73 : decode cX4_init 73 = .ok (.aload_n 0, 1) := by decide +kernel
theorem dX4_init_74 : decode cX4_init 74 = .ok (.getfield 30, 3) := by decide +kernel
theorem dX4_init_77 : decode cX4_init 77 = .ok (.iconst 3, 1) := by decide +kernel
theorem dX4_init_78 : decode cX4_init 78 = .ok (.iconst 0, 1) := by decide +kernel
theorem dX4_init_79 : decode cX4_init 79 = .ok (.invokevirtual 38, 3) := by decide +kernel
theorem dX4_init_82 : decode cX4_init 82 = .ok (.return_, 1) := by decide +kernel
theorem dX4_time_0 : decode cX4_time 0 = .ok (.aload_n 0, 1) := by decide +kernel
theorem dX4_time_1 : decode cX4_time 1 = .ok (.getfield 34, 3) := by decide +kernel
theorem dX4_time_4 : decode cX4_time 4 = .ok (.ireturn, 1) := by decide +kernel
theorem dX4_setting_0 : decode cX4_setting 0 = .ok (.aload_n 0, 1) := by decide +kernel
theorem dX4_setting_1 : decode cX4_setting 1 = .ok (.getfield 30, 3) := by decide +kernel
theorem dX4_setting_4 : decode cX4_setting 4 = .ok (.iload_n 1, 1) := by decide +kernel
theorem dX4_setting_5 : decode cX4_setting 5 = .ok (.invokevirtual 42, 3) := by decide +kernel
theorem dX4_setting_8 : decode cX4_setting 8 = .ok (.ireturn, 1) := by decide +kernel
theorem dX4_changeSetting_0 : decode cX4_changeSetting 0 = .ok (.aload_n 0, 1) := by decide +kernel
theorem dX4_changeSetting_1 : decode cX4_changeSetting 1 = .ok (.getfield 30, 3) := by decide +kernel
theorem dX4_changeSetting_4 : decode cX4_changeSetting 4 = .ok (.iload_n 1, 1) := by decide +kernel
theorem dX4_changeSetting_5 : decode cX4_changeSetting 5 = .ok (.invokevirtual 42, 3) := by decide +kernel
theorem dX4_changeSetting_8 : decode cX4_changeSetting 8 = .ok (.istore_n 3, 1) := by decide +kernel
theorem dX4_changeSetting_9 : decode cX4_changeSetting 9 = .ok (.aload_n 0, 1) := by decide +kernel
theorem dX4_changeSetting_10 : decode cX4_changeSetting 10 = .ok (.getfield 30, 3) := by decide +kernel
theorem dX4_changeSetting_13 : decode cX4_changeSetting 13 = .ok (.iload_n 1, 1) := by decide +kernel
theorem dX4_changeSetting_14 : decode cX4_changeSetting 14 = .ok (.iload_n 2, 1) := by decide +kernel
theorem dX4_changeSetting_15 : decode cX4_changeSetting 15 = .ok (.invokevirtual 38, 3) := by decide +kernel
theorem dX4_changeSetting_18 : decode cX4_changeSetting 18 = .ok (.iload_n 3, 1) := by decide +kernel
theorem dX4_changeSetting_19 : decode cX4_changeSetting 19 = .ok (.ireturn, 1) := by decide +kernel
theorem dX4_startAgain_0 : decode cX4_startAgain 0 = .ok (.aload_n 0, 1) := by decide +kernel
theorem dX4_startAgain_1 : decode cX4_startAgain 1 = .ok (.iconst 0, 1) := by decide +kernel
theorem dX4_startAgain_2 : decode cX4_startAgain 2 = .ok (.putfield 34, 3) := by decide +kernel
theorem dX4_startAgain_5 : decode cX4_startAgain 5 = .ok (.aload_n 0, 1) := by decide +kernel
theorem dX4_startAgain_6 : decode cX4_startAgain 6 = .ok (.getfield 21, 3) := by decide +kernel
theorem dX4_startAgain_9 : decode cX4_startAgain 9 = .ok (.invokevirtual 46, 3) := by decide +kernel
theorem dX4_startAgain_12 : decode cX4_startAgain 12 = .ok (.return_, 1) := by decide +kernel
theorem dX4_advance_0 : decode cX4_advance 0 = .ok (.iconst 0, 1) := by decide +kernel
theorem dX4_advance_1 : decode cX4_advance 1 = .ok (.istore_n 2, 1) := by decide +kernel
theorem dX4_advance_2 : decode cX4_advance 2 = .ok (.iconst 0, 1) := by decide +kernel
theorem dX4_advance_3 : decode cX4_advance 3 = .ok (.istore_n 3, 1) := by decide +kernel
theorem dX4_advance_4 : decode cX4_advance 4 = .ok (.iload_n 3, 1) := by decide +kernel
theorem dX4_advance_5 : decode cX4_advance 5 = .ok (.aload_n 0, 1) := by decide +kernel
theorem dX4_advance_6 : decode cX4_advance 6 = .ok (.getfield 21, 3) := by decide +kernel
theorem dX4_advance_9 : decode cX4_advance 9 = .ok (.invokevirtual 49, 3) := by decide +kernel
theorem dX4_advance_12 : decode cX4_advance 12 = .ok (.if_icmp .ge 48, 3) := by decide +kernel
theorem dX4_advance_15 : decode cX4_advance 15 = .ok (.aload_n 0, 1) := by decide +kernel
theorem dX4_advance_16 : decode cX4_advance 16 = .ok (.getfield 21, 3) := by decide +kernel
theorem dX4_advance_19 : decode cX4_advance 19 = .ok (.iload_n 3, 1) := by decide +kernel
theorem dX4_advance_20 : decode cX4_advance 20 = .ok (.invokevirtual 53, 3) := by decide +kernel
theorem dX4_advance_23 : decode cX4_advance 23 = .ok (.istore 4, 2) := by decide +kernel
theorem dX4_advance_25 : decode cX4_advance 25 = .ok (.iload 4, 2) := by decide +kernel
theorem dX4_advance_27 : decode cX4_advance 27 = .ok (.aload_n 0, 1) := by decide +kernel
theorem dX4_advance_28 : decode cX4_advance 28 = .ok (.getfield 34, 3) := by decide +kernel
theorem dX4_advance_31 : decode cX4_advance 31 = .ok (.if_icmp .le 23, 3) := by decide +kernel
theorem dX4_advance_34 : decode cX4_advance 34 = .ok (.iload 4, 2) := by decide +kernel
theorem dX4_advance_36 : decode cX4_advance 36 = .ok (.iload_n 1, 1) := by decide +kernel
theorem dX4_advance_37 : decode cX4_advance 37 = .ok (.if_icmp .gt 17, 3) := by decide +kernel
theorem dX4_advance_40 : decode cX4_advance 40 = .ok (.aload_n 0, 1) := by decide +kernel
theorem dX4_advance_41 : decode cX4_advance 41 = .ok (.iload 4, 2) := by decide +kernel
theorem dX4_advance_43 : decode cX4_advance 43 = .ok (.invokevirtual 56, 3) := by decide +kernel
theorem dX4_advance_46 : decode cX4_advance 46 = .ok (.aload_n 0, 1) := by decide +kernel
theorem dX4_advance_47 : decode cX4_advance 47 = .ok (.iload_n 3, 1) := by decide +kernel
theorem dX4_advance_48 : decode cX4_advance 48 = .ok (.invokevirtual 59, 3) := by decide +kernel
theorem dX4_advance_51 : decode cX4_advance 51 = .ok (.iinc 2 1, 3) := by decide +kernel
theorem dX4_advance_54 : decode cX4_advance 54 = .ok (.iinc 3 1, 3) := by decide +kernel
theorem dX4_advance_57 : decode cX4_advance 57 = .ok (.goto (-53), 3) := by decide +kernel
theorem dX4_advance_60 : decode cX4_advance 60 = .ok (.aload_n 0, 1) := by decide +kernel
theorem dX4_advance_61 : decode cX4_advance 61 = .ok (.iload_n 1, 1) := by decide +kernel
theorem dX4_advance_62 : decode cX4_advance 62 = .ok (.invokevirtual 56, 3) := by decide +kernel
theorem dX4_advance_65 : decode cX4_advance 65 = .ok (.iload_n 2, 1) := by decide +kernel
theorem dX4_advance_66 : decode cX4_advance 66 = .ok (.ireturn, 1) := by decide +kernel
theorem dX4_dryUntil_0 : decode cX4_dryUntil 0 = .ok (.aload_n 0, 1) := by decide +kernel
theorem dX4_dryUntil_1 : decode cX4_dryUntil 1 = .ok (.getfield 30, 3) := by decide +kernel
theorem dX4_dryUntil_4 : decode cX4_dryUntil 4 = .ok (.iconst 0, 1) := by decide +kernel
theorem dX4_dryUntil_5 : decode cX4_dryUntil 5 = .ok (.invokevirtual 42, 3) := by decide +kernel
theorem dX4_dryUntil_8 : decode cX4_dryUntil 8 = .ok (.istore_n 2, 1) := by decide +kernel
theorem dX4_dryUntil_9 : decode cX4_dryUntil 9 = .ok (.iload_n 2, 1) := by decide +kernel
theorem dX4_dryUntil_10 : decode cX4_dryUntil 10 = .ok (.ifCond .le 20, 3) := by decide +kernel
theorem dX4_dryUntil_13 : decode cX4_dryUntil 13 = .ok (.aload_n 0, 1) := by decide +kernel
theorem dX4_dryUntil_14 : decode cX4_dryUntil 14 = .ok (.getfield 12, 3) := by decide +kernel
theorem dX4_dryUntil_17 : decode cX4_dryUntil 17 = .ok (.iload_n 1, 1) := by decide +kernel
theorem dX4_dryUntil_18 : decode cX4_dryUntil 18 = .ok (.iload_n 2, 1) := by decide +kernel
theorem dX4_dryUntil_19 : decode cX4_dryUntil 19 = .ok (.idiv, 1) := by decide +kernel
theorem dX4_dryUntil_20 : decode cX4_dryUntil 20 = .ok (.aload_n 0, 1) := by decide +kernel
theorem dX4_dryUntil_21 : decode cX4_dryUntil 21 = .ok (.getfield 34, 3) := by decide +kernel
theorem dX4_dryUntil_24 : decode cX4_dryUntil 24 = .ok (.iload_n 2, 1) := by decide +kernel
theorem dX4_dryUntil_25 : decode cX4_dryUntil 25 = .ok (.idiv, 1) := by decide +kernel
theorem dX4_dryUntil_26 : decode cX4_dryUntil 26 = .ok (.isub, 1) := by decide +kernel
theorem dX4_dryUntil_27 : decode cX4_dryUntil 27 = .ok (.invokevirtual 62, 3) := by decide +kernel
theorem dX4_dryUntil_30 : decode cX4_dryUntil 30 = .ok (.aload_n 0, 1) := by decide +kernel
theorem dX4_dryUntil_31 : decode cX4_dryUntil 31 = .ok (.iload_n 1, 1) := by decide +kernel
theorem dX4_dryUntil_32 : decode cX4_dryUntil 32 = .ok (.putfield 34, 3) := by decide +kernel
theorem dX4_dryUntil_35 : decode cX4_dryUntil 35 = .ok (.return_, 1) := by decide +kernel
theorem dX4_playNote_0 : decode cX4_playNote 0 = .ok (.aload_n 0, 1) := by decide +kernel
theorem dX4_playNote_1 : decode cX4_playNote 1 = .ok (.getfield 30, 3) := by decide +kernel
theorem dX4_playNote_4 : decode cX4_playNote 4 = .ok (.iconst 3, 1) := by decide +kernel
theorem dX4_playNote_5 : decode cX4_playNote 5 = .ok (.invokevirtual 42, 3) := by decide +kernel
theorem dX4_playNote_8 : decode cX4_playNote 8 = .ok (.iconst 1, 1) := by decide +kernel
theorem dX4_playNote_9 : decode cX4_playNote 9 = .ok (.if_icmp .ne 29, 3) := by decide +kernel
theorem dX4_playNote_12 : decode cX4_playNote 12 = .ok (.aload_n 0, 1) := by decide +kernel
theorem dX4_playNote_13 : decode cX4_playNote 13 = .ok (.getfield 21, 3) := by decide +kernel
theorem dX4_playNote_16 : decode cX4_playNote 16 = .ok (.iload_n 1, 1) := by decide +kernel
theorem dX4_playNote_17 : decode cX4_playNote 17 = .ok (.aload_n 0, 1) := by decide +kernel
theorem dX4_playNote_18 : decode cX4_playNote 18 = .ok (.getfield 30, 3) := by decide +kernel
theorem dX4_playNote_21 : decode cX4_playNote 21 = .ok (.iconst 1, 1) := by decide +kernel
theorem dX4_playNote_22 : decode cX4_playNote 22 = .ok (.invokevirtual 42, 3) := by decide +kernel
theorem dX4_playNote_25 : decode cX4_playNote 25 = .ok (.invokevirtual 65, 3) := by decide +kernel
theorem dX4_playNote_28 : decode cX4_playNote 28 = .ok (.ifCond .eq 10, 3) := by decide +kernel
theorem dX4_playNote_31 : decode cX4_playNote 31 = .ok (.aload_n 0, 1) := by decide +kernel
theorem dX4_playNote_32 : decode cX4_playNote 32 = .ok (.getfield 12, 3) := by decide +kernel
theorem dX4_playNote_35 : decode cX4_playNote 35 = .ok (.invokevirtual 69, 3) := by decide +kernel
theorem dX4_playNote_38 : decode cX4_playNote 38 = .ok (.aload_n 0, 1) := by decide +kernel
theorem dX4_playNote_39 : decode cX4_playNote 39 = .ok (.getfield 12, 3) := by decide +kernel
theorem dX4_playNote_42 : decode cX4_playNote 42 = .ok (.aload_n 0, 1) := by decide +kernel
theorem dX4_playNote_43 : decode cX4_playNote 43 = .ok (.getfield 21, 3) := by decide +kernel
theorem dX4_playNote_46 : decode cX4_playNote 46 = .ok (.iload_n 1, 1) := by decide +kernel
theorem dX4_playNote_47 : decode cX4_playNote 47 = .ok (.invokevirtual 72, 3) := by decide +kernel
theorem dX4_playNote_50 : decode cX4_playNote 50 = .ok (.invokevirtual 75, 3) := by decide +kernel
theorem dX4_playNote_53 : decode cX4_playNote 53 = .ok (.istore_n 2, 1) := by decide +kernel
theorem dX4_playNote_54 : decode cX4_playNote 54 = .ok (.iload_n 2, 1) := by decide +kernel
theorem dX4_playNote_55 : decode cX4_playNote 55 = .ok (.iconst (-1), 1) := by decide +kernel
theorem dX4_playNote_56 : decode cX4_playNote 56 = .ok (.if_icmp .ne 14, 3) := by decide +kernel
theorem dX4_playNote_59 : decode cX4_playNote 59 = .ok (.aload_n 0, 1) := by decide +kernel
theorem dX4_playNote_60 : decode cX4_playNote 60 = .ok (.getfield 21, 3) := by decide +kernel
theorem dX4_playNote_63 : decode cX4_playNote 63 = .ok (.iload_n 1, 1) := by decide +kernel
theorem dX4_playNote_64 : decode cX4_playNote 64 = .ok (.invokevirtual 78, 3) := by decide +kernel
theorem dX4_playNote_67 : decode cX4_playNote 67 = .ok (.goto 51, 3) := by decide +kernel
theorem dX4_playNote_70 : decode cX4_playNote 70 = .ok (.aload_n 0, 1) := by decide +kernel
theorem dX4_playNote_71 : decode cX4_playNote 71 = .ok (.getfield 12, 3) := by decide +kernel
theorem dX4_playNote_74 : decode cX4_playNote 74 = .ok (.iload_n 2, 1) := by decide +kernel
theorem dX4_playNote_75 : decode cX4_playNote 75 = .ok (.invokevirtual 81, 3) := by decide +kernel
theorem dX4_playNote_78 : decode cX4_playNote 78 = .ok (.aload_n 0, 1) := by decide +kernel
theorem dX4_playNote_79 : decode cX4_playNote 79 = .ok (.getfield 21, 3) := by decide +kernel
theorem dX4_playNote_82 : decode cX4_playNote 82 = .ok (.iload_n 1, 1) := by decide +kernel
theorem dX4_playNote_83 : decode cX4_playNote 83 = .ok (.invokevirtual 72, 3) := by decide +kernel
theorem dX4_playNote_86 : decode cX4_playNote 86 = .ok (.isub, 1) := by decide +kernel
theorem dX4_playNote_87 : decode cX4_playNote 87 = .ok (.istore_n 3, 1) := by decide +kernel
theorem dX4_playNote_88 : decode cX4_playNote 88 = .ok (.aload_n 0, 1) := by decide +kernel
theorem dX4_playNote_89 : decode cX4_playNote 89 = .ok (.getfield 21, 3) := by decide +kernel
theorem dX4_playNote_92 : decode cX4_playNote 92 = .ok (.iload_n 1, 1) := by decide +kernel
theorem dX4_playNote_93 : decode cX4_playNote 93 = .ok (.iload_n 2, 1) := by decide +kernel
theorem dX4_playNote_94 : decode cX4_playNote 94 = .ok (.iload_n 3, 1) := by decide +kernel
theorem dX4_playNote_95 : decode cX4_playNote 95 = .ok (.iload_n 3, 1) := by decide +kernel
theorem dX4_playNote_96 : decode cX4_playNote 96 = .ok (.invokestatic 82, 3) := by decide +kernel
theorem dX4_playNote_99 : decode cX4_playNote 99 = .ok (.aload_n 0, 1) := by decide +kernel
theorem dX4_playNote_100 : decode cX4_playNote 100 = .ok (.getfield 30, 3) := by decide +kernel
theorem dX4_playNote_103 : decode cX4_playNote 103 = .ok (.iconst 2, 1) := by decide +kernel
theorem dX4_playNote_104 : decode cX4_playNote 104 = .ok (.invokevirtual 42, 3) := by decide +kernel
theorem dX4_playNote_107 : decode cX4_playNote 107 = .ok (.if_icmp .gt 7, 3) := by decide +kernel
theorem dX4_playNote_110 : decode cX4_playNote 110 = .ok (.iconst 1, 1) := by decide +kernel
theorem dX4_playNote_111 : decode cX4_playNote 111 = .ok (.goto 4, 3) := by decide +kernel
theorem dX4_playNote_114 : decode cX4_playNote 114 = .ok (.iconst 0, 1) := by decide +kernel
theorem dX4_playNote_115 : decode cX4_playNote 115 = .ok (.invokevirtual 87, 3) := by decide +kernel
theorem dX4_playNote_118 : decode cX4_playNote 118 = .ok (.return_, 1) := by decide +kernel
theorem dX4_copyFrom_0 : decode cX4_copyFrom 0 = .ok (.aload_n 1, 1) := by decide +kernel
theorem dX4_copyFrom_1 : decode cX4_copyFrom 1 = .ok (.ifnonnull 4, 3) := by decide +kernel
theorem dX4_copyFrom_4 : decode cX4_copyFrom 4 = .ok (.return_, 1) := by decide +kernel
theorem dX4_copyFrom_5 : decode cX4_copyFrom 5 = .ok (.aload_n 0, 1) := by decide +kernel
theorem dX4_copyFrom_6 : decode cX4_copyFrom 6 = .ok (.getfield 12, 3) := by decide +kernel
theorem dX4_copyFrom_9 : decode cX4_copyFrom 9 = .ok (.aload_n 1, 1) := by decide +kernel
theorem dX4_copyFrom_10 : decode cX4_copyFrom 10 = .ok (.getfield 12, 3) := by decide +kernel
theorem dX4_copyFrom_13 : decode cX4_copyFrom 13 = .ok (.invokevirtual 91, 3) := by decide +kernel
theorem dX4_copyFrom_16 : decode cX4_copyFrom 16 = .ok (.aload_n 0, 1) := by decide +kernel
theorem dX4_copyFrom_17 : decode cX4_copyFrom 17 = .ok (.getfield 21, 3) := by decide +kernel
theorem dX4_copyFrom_20 : decode cX4_copyFrom 20 = .ok (.aload_n 1, 1) := by decide +kernel
theorem dX4_copyFrom_21 : decode cX4_copyFrom 21 = .ok (.getfield 21, 3) := by decide +kernel
theorem dX4_copyFrom_24 : decode cX4_copyFrom 24 = .ok (.invokevirtual 95, 3) := by decide +kernel
theorem dX4_copyFrom_27 : decode cX4_copyFrom 27 = .ok (.aload_n 0, 1) := by decide +kernel
theorem dX4_copyFrom_28 : decode cX4_copyFrom 28 = .ok (.getfield 30, 3) := by decide +kernel
theorem dX4_copyFrom_31 : decode cX4_copyFrom 31 = .ok (.aload_n 1, 1) := by decide +kernel
theorem dX4_copyFrom_32 : decode cX4_copyFrom 32 = .ok (.getfield 30, 3) := by decide +kernel
theorem dX4_copyFrom_35 : decode cX4_copyFrom 35 = .ok (.invokevirtual 98, 3) := by decide +kernel
theorem dX4_copyFrom_38 : decode cX4_copyFrom 38 = .ok (.aload_n 0, 1) := by decide +kernel
theorem dX4_copyFrom_39 : decode cX4_copyFrom 39 = .ok (.aload_n 1, 1) := by decide +kernel
theorem dX4_copyFrom_40 : decode cX4_copyFrom 40 = .ok (.getfield 34, 3) := by decide +kernel
theorem dX4_copyFrom_43 : decode cX4_copyFrom 43 = .ok (.putfield 34, 3) := by decide +kernel
theorem dX4_copyFrom_46 : decode cX4_copyFrom 46 = .ok (.return_, 1) := by decide +kernel
theorem dX5_init_0 : decode cX5_init 0 = .ok (.aload_n 0, 1) := by decide +kernel
theorem dX5_init_1 : decode cX5_init 1 = .ok (.invokespecial 3, 3) := by decide +kernel
theorem dX5_init_4 : decode cX5_init 4 = .ok (.aload_n 0, 1) := by decide +kernel
theorem dX5_init_5 : decode cX5_init 5 = .ok (.new 9, 3) := by decide +kernel
theorem dX5_init_8 : decode cX5_init 8 = .ok (.dup, 1) := by decide +kernel
theorem dX5_init_9 : decode cX5_init 9 = .ok (.bipush 100, 2) := by decide +kernel
theorem dX5_init_11 : decode cX5_init 11 = .ok (.invokespecial 11, 3) := by decide +kernel
theorem dX5_init_14 : decode cX5_init 14 = .ok (.putfield 14, 3) := by decide +kernel
theorem dX5_init_17 : decode cX5_init 17 = .ok (.aload_n 0, 1) := by decide +kernel
theorem dX5_init_18 : decode cX5_init 18 = .ok (.iconst 0, 1) := by decide +kernel
theorem dX5_init_19 : decode cX5_init 19 = .ok (.putfield 20, 3) := by decide +kernel
theorem dX5_init_22 : decode cX5_init 22 = .ok (.aload_n 0, 1) := by decide +kernel
theorem dX5_init_23 : decode cX5_init 23 = .ok (.iconst 0, 1) := by decide +kernel
theorem dX5_init_24 : decode cX5_init 24 = .ok (.putfield 24, 3) := by decide +kernel
theorem dX5_init_27 : decode cX5_init 27 = .ok (.aload_n 0, 1) := by decide +kernel
theorem dX5_init_28 : decode cX5_init 28 = .ok (.iconst 0, 1) := by decide +kernel
theorem dX5_init_29 : decode cX5_init 29 = .ok (.putfield 27, 3) := by decide +kernel
theorem dX5_init_32 : decode cX5_init 32 = .ok (.aload_n 0, 1) := by decide +kernel
theorem dX5_init_33 : decode cX5_init 33 = .ok (.iconst 0, 1) := by decide +kernel
theorem dX5_init_34 : decode cX5_init 34 = .ok (.putfield 30, 3) := by decide +kernel
theorem dX5_init_37 : decode cX5_init 37 = .ok (.aload_n 0, 1) := by decide +kernel
theorem dX5_init_38 : decode cX5_init 38 = .ok (.iconst 0, 1) := by decide +kernel
theorem dX5_init_39 : decode cX5_init 39 = .ok (.putfield 33, 3) := by decide +kernel
theorem dX5_init_42 : decode cX5_init 42 = .ok (.aload_n 0, 1) := by decide +kernel
theorem dX5_init_43 : decode cX5_init 43 = .ok (.iconst 0, 1) := by decide +kernel
theorem dX5_init_44 : decode cX5_init 44 = .ok (.putfield 36, 3) := by decide +kernel
theorem dX5_init_47 : decode cX5_init 47 = .ok (.aload_n 0, 1) := by decide +kernel
theorem dX5_init_48 : decode cX5_init 48 = .ok (.iconst 0, 1) := by decide +kernel
theorem dX5_init_49 : decode cX5_init 49 = .ok (.putfield 39, 3) := by decide +kernel
theorem dX5_init_52 : decode cX5_init 52 = .ok (.return_, 1) := by decide +kernel
theorem dX5_length_0 : decode cX5_length 0 = .ok (.aload_n 0, 1) := by decide +kernel
theorem dX5_length_1 : decode cX5_length 1 = .ok (.getfield 20, 3) := by decide +kernel
theorem dX5_length_4 : decode cX5_length 4 = .ok (.ireturn, 1) := by decide +kernel
theorem dX5_notesRead_0 : decode cX5_notesRead 0 = .ok (.aload_n 0, 1) := by decide +kernel
theorem dX5_notesRead_1 : decode cX5_notesRead 1 = .ok (.getfield 33, 3) := by decide +kernel
theorem dX5_notesRead_4 : decode cX5_notesRead 4 = .ok (.ireturn, 1) := by decide +kernel
theorem dX5_faultPlace_0 : decode cX5_faultPlace 0 = .ok (.aload_n 0, 1) := by decide +kernel
theorem dX5_faultPlace_1 : decode cX5_faultPlace 1 = .ok (.getfield 36, 3) := by decide +kernel
theorem dX5_faultPlace_4 : decode cX5_faultPlace 4 = .ok (.ireturn, 1) := by decide +kernel
theorem dX5_faultReason_0 : decode cX5_faultReason 0 = .ok (.aload_n 0, 1) := by decide +kernel
theorem dX5_faultReason_1 : decode cX5_faultReason 1 = .ok (.getfield 39, 3) := by decide +kernel
theorem dX5_faultReason_4 : decode cX5_faultReason 4 = .ok (.ireturn, 1) := by decide +kernel
theorem dX5_append_0 : decode cX5_append 0 = .ok (.aload_n 0, 1) := by decide +kernel
theorem dX5_append_1 : decode cX5_append 1 = .ok (.getfield 14, 3) := by decide +kernel
theorem dX5_append_4 : decode cX5_append 4 = .ok (.aload_n 0, 1) := by decide +kernel
theorem dX5_append_5 : decode cX5_append 5 = .ok (.getfield 20, 3) := by decide +kernel
theorem dX5_append_8 : decode cX5_append 8 = .ok (.iload_n 1, 1) := by decide +kernel
theorem dX5_append_9 : decode cX5_append 9 = .ok (.invokevirtual 42, 3) := by decide +kernel
theorem dX5_append_12 : decode cX5_append 12 = .ok (.aload_n 0, 1) := by decide +kernel
theorem dX5_append_13 : decode cX5_append 13 = .ok (.dup, 1) := by decide +kernel
theorem dX5_append_14 : decode cX5_append 14 = .ok (.getfield 20, 3) := by decide +kernel
theorem dX5_append_17 : decode cX5_append 17 = .ok (.iconst 1, 1) := by decide +kernel
theorem dX5_append_18 : decode cX5_append 18 = .ok (.iadd, 1) := by decide +kernel
theorem dX5_append_19 : decode cX5_append 19 = .ok (.putfield 20, 3) := by decide +kernel
theorem dX5_append_22 : decode cX5_append 22 = .ok (.return_, 1) := by decide +kernel
theorem dX5_empty_0 : decode cX5_empty 0 = .ok (.iconst 0, 1) := by decide +kernel
theorem dX5_empty_1 : decode cX5_empty 1 = .ok (.istore_n 1, 1) := by decide +kernel
theorem dX5_empty_2 : decode cX5_empty 2 = .ok (.iload_n 1, 1) := by decide +kernel
theorem dX5_empty_3 : decode cX5_empty 3 = .ok (.aload_n 0, 1) := by decide +kernel
theorem dX5_empty_4 : decode cX5_empty 4 = .ok (.getfield 20, 3) := by decide +kernel
theorem dX5_empty_7 : decode cX5_empty 7 = .ok (.if_icmp .ge 18, 3) := by decide +kernel
theorem dX5_empty_10 : decode cX5_empty 10 = .ok (.aload_n 0, 1) := by decide +kernel
theorem dX5_empty_11 : decode cX5_empty 11 = .ok (.getfield 14, 3) := by decide +kernel
theorem dX5_empty_14 : decode cX5_empty 14 = .ok (.iload_n 1, 1) := by decide +kernel
theorem dX5_empty_15 : decode cX5_empty 15 = .ok (.iconst 0, 1) := by decide +kernel
theorem dX5_empty_16 : decode cX5_empty 16 = .ok (.invokevirtual 42, 3) := by decide +kernel
theorem dX5_empty_19 : decode cX5_empty 19 = .ok (.iinc 1 1, 3) := by decide +kernel
theorem dX5_empty_22 : decode cX5_empty 22 = .ok (.goto (-20), 3) := by decide +kernel
theorem dX5_empty_25 : decode cX5_empty 25 = .ok (.aload_n 0, 1) := by decide +kernel
theorem dX5_empty_26 : decode cX5_empty 26 = .ok (.iconst 0, 1) := by decide +kernel
theorem dX5_empty_27 : decode cX5_empty 27 = .ok (.putfield 20, 3) := by decide +kernel
theorem dX5_empty_30 : decode cX5_empty 30 = .ok (.return_, 1) := by decide +kernel
theorem dX5_readInto_0 : decode cX5_readInto 0 = .ok (.aload_n 0, 1) := by decide +kernel
theorem dX5_readInto_1 : decode cX5_readInto 1 = .ok (.iconst 0, 1) := by decide +kernel
theorem dX5_readInto_2 : decode cX5_readInto 2 = .ok (.putfield 24, 3) := by decide +kernel
theorem dX5_readInto_5 : decode cX5_readInto 5 = .ok (.aload_n 0, 1) := by decide +kernel
theorem dX5_readInto_6 : decode cX5_readInto 6 = .ok (.iconst 0, 1) := by decide +kernel
theorem dX5_readInto_7 : decode cX5_readInto 7 = .ok (.putfield 33, 3) := by decide +kernel
theorem dX5_readInto_10 : decode cX5_readInto 10 = .ok (.aload_n 0, 1) := by decide +kernel
theorem dX5_readInto_11 : decode cX5_readInto 11 = .ok (.iconst 0, 1) := by decide +kernel
theorem dX5_readInto_12 : decode cX5_readInto 12 = .ok (.putfield 39, 3) := by decide +kernel
theorem dX5_readInto_15 : decode cX5_readInto 15 = .ok (.aload_n 1, 1) := by decide +kernel
theorem dX5_readInto_16 : decode cX5_readInto 16 = .ok (.ifnonnull 4, 3) := by decide +kernel
theorem dX5_readInto_19 : decode cX5_readInto 19 = .ok (.return_, 1) := by decide +kernel
theorem dX5_readInto_20 : decode cX5_readInto 20 = .ok (.iconst 0, 1) := by decide +kernel
theorem dX5_readInto_21 : decode cX5_readInto 21 = .ok (.istore_n 2, 1) := by decide +kernel
theorem dX5_readInto_22 : decode cX5_readInto 22 = .ok (.iload_n 2, 1) := by decide +kernel
theorem dX5_readInto_23 : decode cX5_readInto 23 = .ok (.bipush 100, 2) := by decide +kernel
theorem dX5_readInto_25 : decode cX5_readInto 25 = .ok (.if_icmp .ge 74, 3) := by decide +kernel
theorem dX5_readInto_28 : decode cX5_readInto 28 = .ok (.aload_n 0, 1) := by decide +kernel
theorem dX5_readInto_29 : decode cX5_readInto 29 = .ok (.getfield 24, 3) := by decide +kernel
theorem dX5_readInto_32 : decode cX5_readInto 32 = .ok (.aload_n 0, 1) := by decide +kernel
theorem dX5_readInto_33 : decode cX5_readInto 33 = .ok (.getfield 20, 3) := by decide +kernel
theorem dX5_readInto_36 : decode cX5_readInto 36 = .ok (.if_icmp .ge 63, 3) := by decide +kernel
theorem dX5_readInto_39 : decode cX5_readInto 39 = .ok (.aload_n 0, 1) := by decide +kernel
theorem dX5_readInto_40 : decode cX5_readInto 40 = .ok (.getfield 39, 3) := by decide +kernel
theorem dX5_readInto_43 : decode cX5_readInto 43 = .ok (.ifCond .ne 56, 3) := by decide +kernel
theorem dX5_readInto_46 : decode cX5_readInto 46 = .ok (.aload_n 0, 1) := by decide +kernel
theorem dX5_readInto_47 : decode cX5_readInto 47 = .ok (.aload_n 0, 1) := by decide +kernel
theorem dX5_readInto_48 : decode cX5_readInto 48 = .ok (.getfield 24, 3) := by decide +kernel
theorem dX5_readInto_51 : decode cX5_readInto 51 = .ok (.putfield 36, 3) := by decide +kernel
theorem dX5_readInto_54 : decode cX5_readInto 54 = .ok (.aload_n 0, 1) := by decide +kernel
theorem dX5_readInto_55 : decode cX5_readInto 55 = .ok (.aload_n 0, 1) := by decide +kernel
theorem dX5_readInto_56 : decode cX5_readInto 56 = .ok (.aload_n 1, 1) := by decide +kernel
theorem dX5_readInto_57 : decode cX5_readInto 57 = .ok (.invokevirtual 46, 3) := by decide +kernel
theorem dX5_readInto_60 : decode cX5_readInto 60 = .ok (.putfield 39, 3) := by decide +kernel
theorem dX5_readInto_63 : decode cX5_readInto 63 = .ok (.aload_n 0, 1) := by decide +kernel
theorem dX5_readInto_64 : decode cX5_readInto 64 = .ok (.getfield 39, 3) := by decide +kernel
theorem dX5_readInto_67 : decode cX5_readInto 67 = .ok (.ifCond .ne 26, 3) := by decide +kernel
theorem dX5_readInto_70 : decode cX5_readInto 70 = .ok (.aload_n 1, 1) := by decide +kernel
theorem dX5_readInto_71 : decode cX5_readInto 71 = .ok (.aload_n 0, 1) := by decide +kernel
theorem dX5_readInto_72 : decode cX5_readInto 72 = .ok (.getfield 27, 3) := by decide +kernel
theorem dX5_readInto_75 : decode cX5_readInto 75 = .ok (.aload_n 0, 1) := by decide +kernel
theorem dX5_readInto_76 : decode cX5_readInto 76 = .ok (.getfield 30, 3) := by decide +kernel
theorem dX5_readInto_79 : decode cX5_readInto 79 = .ok (.invokevirtual 50, 3) := by decide +kernel
theorem dX5_readInto_82 : decode cX5_readInto 82 = .ok (.pop, 1) := by decide +kernel
theorem dX5_readInto_83 : decode cX5_readInto 83 = .ok (.aload_n 0, 1) := by decide +kernel
theorem dX5_readInto_84 : decode cX5_readInto 84 = .ok (.dup, 1) := by decide +kernel
theorem dX5_readInto_85 : decode cX5_readInto 85 = .ok (.getfield 33, 3) := by decide +kernel
theorem dX5_readInto_88 : decode cX5_readInto 88 = .ok (.iconst 1, 1) := by decide +kernel
theorem dX5_readInto_89 : decode cX5_readInto 89 = .ok (.iadd, 1) := by decide +kernel
theorem dX5_readInto_90 : decode cX5_readInto 90 = .ok (.putfield 33, 3) := by decide +kernel
theorem dX5_readInto_93 : decode cX5_readInto 93 = .ok (.iinc 2 1, 3) := by decide +kernel
theorem dX5_readInto_96 : decode cX5_readInto 96 = .ok (.goto (-74), 3) := by decide +kernel
theorem dX5_readInto_99 : decode cX5_readInto 99 = .ok (.return_, 1) := by decide +kernel
theorem dX5_reasonAgainstNext_0 : decode cX5_reasonAgainstNext 0 = .ok (.aload_n 0, 1) := by decide +kernel
theorem dX5_reasonAgainstNext_1 : decode cX5_reasonAgainstNext 1 = .ok (.invokevirtual 56, 3) := by decide +kernel
theorem dX5_reasonAgainstNext_4 : decode cX5_reasonAgainstNext 4 = .ok (.ifCond .ne 5, 3) := by decide +kernel
theorem dX5_reasonAgainstNext_7 : decode cX5_reasonAgainstNext 7 = .ok (.iconst 1, 1) := by decide +kernel
theorem dX5_reasonAgainstNext_8 : decode cX5_reasonAgainstNext 8 = .ok (.ireturn, 1) := by decide +kernel
theorem dX5_reasonAgainstNext_9 : decode cX5_reasonAgainstNext 9 = .ok (.aload_n 0, 1) := by decide +kernel
theorem dX5_reasonAgainstNext_10 : decode cX5_reasonAgainstNext 10 = .ok (.getfield 27, 3) := by decide +kernel
theorem dX5_reasonAgainstNext_13 : decode cX5_reasonAgainstNext 13 = .ok (.sipush 3600, 3) := by decide +kernel
theorem dX5_reasonAgainstNext_16 : decode cX5_reasonAgainstNext 16 = .ok (.if_icmp .gt 13, 3) := by decide +kernel
theorem dX5_reasonAgainstNext_19 : decode cX5_reasonAgainstNext 19 = .ok (.aload_n 0, 1) := by decide +kernel
theorem dX5_reasonAgainstNext_20 : decode cX5_reasonAgainstNext 20 = .ok (.getfield 30, 3) := by decide +kernel
theorem dX5_reasonAgainstNext_23 : decode cX5_reasonAgainstNext 23 = .ok (.sipush 6000, 3) := by decide +kernel
theorem dX5_reasonAgainstNext_26 : decode cX5_reasonAgainstNext 26 = .ok (.if_icmp .le 5, 3) := by decide +kernel
theorem dX5_reasonAgainstNext_29 : decode cX5_reasonAgainstNext 29 = .ok (.iconst 2, 1) := by decide +kernel
theorem dX5_reasonAgainstNext_30 : decode cX5_reasonAgainstNext 30 = .ok (.ireturn, 1) := by decide +kernel
theorem dX5_reasonAgainstNext_31 : decode cX5_reasonAgainstNext 31 = .ok (.aload_n 1, 1) := by decide +kernel
theorem dX5_reasonAgainstNext_32 : decode cX5_reasonAgainstNext 32 = .ok (.aload_n 0, 1) := by decide +kernel
theorem dX5_reasonAgainstNext_33 : decode cX5_reasonAgainstNext 33 = .ok (.getfield 27, 3) := by decide +kernel
theorem dX5_reasonAgainstNext_36 : decode cX5_reasonAgainstNext 36 = .ok (.invokevirtual 60, 3) := by decide +kernel
theorem dX5_reasonAgainstNext_39 : decode cX5_reasonAgainstNext 39 = .ok (.ifCond .eq 5, 3) := by decide +kernel
theorem dX5_reasonAgainstNext_42 : decode cX5_reasonAgainstNext 42 = .ok (.iconst 3, 1) := by decide +kernel
theorem dX5_reasonAgainstNext_43 : decode cX5_reasonAgainstNext 43 = .ok (.ireturn, 1) := by decide +kernel
theorem dX5_reasonAgainstNext_44 : decode cX5_reasonAgainstNext 44 = .ok (.aload_n 1, 1) := by decide +kernel
theorem dX5_reasonAgainstNext_45 : decode cX5_reasonAgainstNext 45 = .ok (.invokevirtual 64, 3) := by decide +kernel
theorem dX5_reasonAgainstNext_48 : decode cX5_reasonAgainstNext 48 = .ok (.ifCond .eq 7, 3) := by decide +kernel
theorem dX5_reasonAgainstNext_51 : decode cX5_reasonAgainstNext 51 = .ok (.iconst 4, 1) := by decide +kernel
theorem dX5_reasonAgainstNext_52 : decode cX5_reasonAgainstNext 52 = .ok (.goto 4, 3) := by decide +kernel
theorem dX5_reasonAgainstNext_55 : decode cX5_reasonAgainstNext 55 = .ok (.iconst 0, 1) := by decide +kernel
theorem dX5_reasonAgainstNext_56 : decode cX5_reasonAgainstNext 56 = .ok (.ireturn, 1) := by decide +kernel
theorem dX5_readNote_0 : decode cX5_readNote 0 = .ok (.aload_n 0, 1) := by decide +kernel
theorem dX5_readNote_1 : decode cX5_readNote 1 = .ok (.aload_n 0, 1) := by decide +kernel
theorem dX5_readNote_2 : decode cX5_readNote 2 = .ok (.invokevirtual 67, 3) := by decide +kernel
theorem dX5_readNote_5 : decode cX5_readNote 5 = .ok (.putfield 27, 3) := by decide +kernel
theorem dX5_readNote_8 : decode cX5_readNote 8 = .ok (.aload_n 0, 1) := by decide +kernel
theorem dX5_readNote_9 : decode cX5_readNote 9 = .ok (.getfield 27, 3) := by decide +kernel
theorem dX5_readNote_12 : decode cX5_readNote 12 = .ok (.iconst (-1), 1) := by decide +kernel
theorem dX5_readNote_13 : decode cX5_readNote 13 = .ok (.if_icmp .eq 12, 3) := by decide +kernel
theorem dX5_readNote_16 : decode cX5_readNote 16 = .ok (.aload_n 0, 1) := by decide +kernel
theorem dX5_readNote_17 : decode cX5_readNote 17 = .ok (.bipush 58, 2) := by decide +kernel
theorem dX5_readNote_19 : decode cX5_readNote 19 = .ok (.invokevirtual 71, 3) := by decide +kernel
theorem dX5_readNote_22 : decode cX5_readNote 22 = .ok (.ifCond .ne 5, 3) := by decide +kernel
theorem dX5_readNote_25 : decode cX5_readNote 25 = .ok (.iconst 0, 1) := by decide +kernel
theorem dX5_readNote_26 : decode cX5_readNote 26 = .ok (.ireturn, 1) := by decide +kernel
theorem dX5_readNote_27 : decode cX5_readNote 27 = .ok (.aload_n 0, 1) := by decide +kernel
theorem dX5_readNote_28 : decode cX5_readNote 28 = .ok (.aload_n 0, 1) := by decide +kernel
theorem dX5_readNote_29 : decode cX5_readNote 29 = .ok (.invokevirtual 67, 3) := by decide +kernel
theorem dX5_readNote_32 : decode cX5_readNote 32 = .ok (.putfield 30, 3) := by decide +kernel
theorem dX5_readNote_35 : decode cX5_readNote 35 = .ok (.aload_n 0, 1) := by decide +kernel
theorem dX5_readNote_36 : decode cX5_readNote 36 = .ok (.getfield 30, 3) := by decide +kernel
theorem dX5_readNote_39 : decode cX5_readNote 39 = .ok (.iconst (-1), 1) := by decide +kernel
theorem dX5_readNote_40 : decode cX5_readNote 40 = .ok (.if_icmp .eq 16, 3) := by decide +kernel
theorem dX5_readNote_43 : decode cX5_readNote 43 = .ok (.aload_n 0, 1) := by decide +kernel
theorem dX5_readNote_44 : decode cX5_readNote 44 = .ok (.bipush 59, 2) := by decide +kernel
theorem dX5_readNote_46 : decode cX5_readNote 46 = .ok (.invokevirtual 71, 3) := by decide +kernel
theorem dX5_readNote_49 : decode cX5_readNote 49 = .ok (.ifCond .eq 7, 3) := by decide +kernel
theorem dX5_readNote_52 : decode cX5_readNote 52 = .ok (.iconst 1, 1) := by decide +kernel
theorem dX5_readNote_53 : decode cX5_readNote 53 = .ok (.goto 4, 3) := by decide +kernel
theorem dX5_readNote_56 : decode cX5_readNote 56 = .ok (.iconst 0, 1) := by decide +kernel
theorem dX5_readNote_57 : decode cX5_readNote 57 = .ok (.ireturn, 1) := by decide +kernel
theorem dX5_readNumber_0 : decode cX5_readNumber 0 = .ok (.iconst (-1), 1) := by decide +kernel
theorem dX5_readNumber_1 : decode cX5_readNumber 1 = .ok (.istore_n 1, 1) := by decide +kernel
theorem dX5_readNumber_2 : decode cX5_readNumber 2 = .ok (.iconst 0, 1) := by decide +kernel
theorem dX5_readNumber_3 : decode cX5_readNumber 3 = .ok (.istore_n 2, 1) := by decide +kernel
theorem dX5_readNumber_4 : decode cX5_readNumber 4 = .ok (.iload_n 2, 1) := by decide +kernel
theorem dX5_readNumber_5 : decode cX5_readNumber 5 = .ok (.iconst 4, 1) := by decide +kernel
theorem dX5_readNumber_6 : decode cX5_readNumber 6 = .ok (.if_icmp .ge 64, 3) := by decide +kernel
theorem dX5_readNumber_9 : decode cX5_readNumber 9 = .ok (.aload_n 0, 1) := by decide +kernel
theorem dX5_readNumber_10 : decode cX5_readNumber 10 = .ok (.getfield 14, 3) := by decide +kernel
theorem dX5_readNumber_13 : decode cX5_readNumber 13 = .ok (.aload_n 0, 1) := by decide +kernel
theorem dX5_readNumber_14 : decode cX5_readNumber 14 = .ok (.getfield 24, 3) := by decide +kernel
theorem dX5_readNumber_17 : decode cX5_readNumber 17 = .ok (.invokevirtual 74, 3) := by decide +kernel
theorem dX5_readNumber_20 : decode cX5_readNumber 20 = .ok (.bipush 48, 2) := by decide +kernel
theorem dX5_readNumber_22 : decode cX5_readNumber 22 = .ok (.bipush 57, 2) := by decide +kernel
theorem dX5_readNumber_24 : decode cX5_readNumber 24 = .ok (.invokestatic 78, 3) := by decide +kernel
theorem dX5_readNumber_27 : decode cX5_readNumber 27 = .ok (.ifCond .eq 43, 3) := by decide +kernel
theorem dX5_readNumber_30 : decode cX5_readNumber 30 = .ok (.iload_n 1, 1) := by decide +kernel
theorem dX5_readNumber_31 : decode cX5_readNumber 31 = .ok (.iconst 0, 1) := by decide +kernel
theorem dX5_readNumber_32 : decode cX5_readNumber 32 = .ok (.invokestatic 82, 3) := by decide +kernel
theorem dX5_readNumber_35 : decode cX5_readNumber 35 = .ok (.bipush 10, 2) := by decide +kernel
theorem dX5_readNumber_37 : decode cX5_readNumber 37 = .ok (.imul, 1) := by decide +kernel
theorem dX5_readNumber_38 : decode cX5_readNumber 38 = .ok (.aload_n 0, 1) := by decide +kernel
theorem dX5_readNumber_39 : decode cX5_readNumber 39 = .ok (.getfield 14, 3) := by decide +kernel
theorem dX5_readNumber_42 : decode cX5_readNumber 42 = .ok (.aload_n 0, 1) := by decide +kernel
theorem dX5_readNumber_43 : decode cX5_readNumber 43 = .ok (.getfield 24, 3) := by decide +kernel
theorem dX5_readNumber_46 : decode cX5_readNumber 46 = .ok (.invokevirtual 74, 3) := by decide +kernel
theorem dX5_readNumber_49 : decode cX5_readNumber 49 = .ok (.iadd, 1) := by decide +kernel
theorem dX5_readNumber_50 : decode cX5_readNumber 50 = .ok (.bipush 48, 2) := by decide +kernel
theorem dX5_readNumber_52 : decode cX5_readNumber 52 = .ok (.isub, 1) := by decide +kernel
theorem dX5_readNumber_53 : decode cX5_readNumber 53 = .ok (.istore_n 1, 1) := by decide +kernel
theorem dX5_readNumber_54 : decode cX5_readNumber 54 = .ok (.aload_n 0, 1) := by decide +kernel
theorem dX5_readNumber_55 : decode cX5_readNumber 55 = .ok (.dup, 1) := by decide +kernel
theorem dX5_readNumber_56 : decode cX5_readNumber 56 = .ok (.getfield 24, 3) := by decide +kernel
theorem dX5_readNumber_59 : decode cX5_readNumber 59 = .ok (.iconst 1, 1) := by decide +kernel
theorem dX5_readNumber_60 : decode cX5_readNumber 60 = .ok (.iadd, 1) := by decide +kernel
theorem dX5_readNumber_61 : decode cX5_readNumber 61 = .ok (.putfield 24, 3) := by decide +kernel
theorem dX5_readNumber_64 : decode cX5_readNumber 64 = .ok (.iinc 2 1, 3) := by decide +kernel
theorem dX5_readNumber_67 : decode cX5_readNumber 67 = .ok (.goto (-63), 3) := by decide +kernel
theorem dX5_readNumber_70 : decode cX5_readNumber 70 = .ok (.iload_n 1, 1) := by decide +kernel
theorem dX5_readNumber_71 : decode cX5_readNumber 71 = .ok (.ireturn, 1) := by decide +kernel
theorem dX5_readCharacter_0 : decode cX5_readCharacter 0 = .ok (.aload_n 0, 1) := by decide +kernel
theorem dX5_readCharacter_1 : decode cX5_readCharacter 1 = .ok (.getfield 14, 3) := by decide +kernel
theorem dX5_readCharacter_4 : decode cX5_readCharacter 4 = .ok (.aload_n 0, 1) := by decide +kernel
theorem dX5_readCharacter_5 : decode cX5_readCharacter 5 = .ok (.getfield 24, 3) := by decide +kernel
theorem dX5_readCharacter_8 : decode cX5_readCharacter 8 = .ok (.invokevirtual 74, 3) := by decide +kernel
theorem dX5_readCharacter_11 : decode cX5_readCharacter 11 = .ok (.iload_n 1, 1) := by decide +kernel
theorem dX5_readCharacter_12 : decode cX5_readCharacter 12 = .ok (.if_icmp .ne 7, 3) := by decide +kernel
theorem dX5_readCharacter_15 : decode cX5_readCharacter 15 = .ok (.iconst 1, 1) := by decide +kernel
theorem dX5_readCharacter_16 : decode cX5_readCharacter 16 = .ok (.goto 4, 3) := by decide +kernel
theorem dX5_readCharacter_19 : decode cX5_readCharacter 19 = .ok (.iconst 0, 1) := by decide +kernel
theorem dX5_readCharacter_20 : decode cX5_readCharacter 20 = .ok (.istore_n 2, 1) := by decide +kernel
theorem dX5_readCharacter_21 : decode cX5_readCharacter 21 = .ok (.aload_n 0, 1) := by decide +kernel
theorem dX5_readCharacter_22 : decode cX5_readCharacter 22 = .ok (.dup, 1) := by decide +kernel
theorem dX5_readCharacter_23 : decode cX5_readCharacter 23 = .ok (.getfield 24, 3) := by decide +kernel
theorem dX5_readCharacter_26 : decode cX5_readCharacter 26 = .ok (.iconst 1, 1) := by decide +kernel
theorem dX5_readCharacter_27 : decode cX5_readCharacter 27 = .ok (.iadd, 1) := by decide +kernel
theorem dX5_readCharacter_28 : decode cX5_readCharacter 28 = .ok (.putfield 24, 3) := by decide +kernel
theorem dX5_readCharacter_31 : decode cX5_readCharacter 31 = .ok (.iload_n 2, 1) := by decide +kernel
theorem dX5_readCharacter_32 : decode cX5_readCharacter 32 = .ok (.ireturn, 1) := by decide +kernel
