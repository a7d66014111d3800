theorem dX6_init_0 : decode cX6_init 0 = .ok (.aload_n 0, 1) := by decide +kernel
theorem dX6_init_1 : decode cX6_init 1 = .ok (.invokespecial 1, 3) := by decide +kernel
theorem dX6_init_4 : decode cX6_init 4 = .ok (.aload_n 0, 1) := by decide +kernel
theorem dX6_init_5 : decode cX6_init 5 = .ok (.new 7, 3) := by decide +kernel
theorem dX6_init_8 : decode cX6_init 8 = .ok (.dup, 1) := by decide +kernel
theorem dX6_init_9 : decode cX6_init 9 = .ok (.invokespecial 9, 3) := by decide +kernel
theorem dX6_init_12 : decode cX6_init 12 = .ok (.putfield 10, 3) := by decide +kernel
theorem dX6_init_15 : decode cX6_init 15 = .ok (.aload_n 0, 1) := by decide +kernel
theorem dX6_init_16 : decode cX6_init 16 = .ok (.new 7, 3) := by decide +kernel
theorem dX6_init_19 : decode cX6_init 19 = .ok (.dup, 1) := by decide +kernel
theorem dX6_init_20 : decode cX6_init 20 = .ok (.invokespecial 9, 3) := by decide +kernel
theorem dX6_init_23 : decode cX6_init 23 = .ok (.putfield 16, 3) := by decide +kernel
theorem dX6_init_26 : decode cX6_init 26 = .ok (.aload_n 0, 1) := by decide +kernel
theorem dX6_init_27 : decode cX6_init 27 = .ok (.new 19, 3) := by decide +kernel
theorem dX6_init_30 : decode cX6_init 30 = .ok (.dup, 1) := by decide +kernel
theorem dX6_init_31 : decode cX6_init 31 = .ok (.invokespecial 21, 3) := by decide +kernel
theorem dX6_init_34 : decode cX6_init 34 = .ok (.putfield 22, 3) := by decide +kernel
theorem dX6_init_37 : decode cX6_init 37 = .ok (.aload_n 0, 1) := by decide +kernel
theorem dX6_init_38 : decode cX6_init 38 = .ok (.new 26, 3) := by decide +kernel
theorem dX6_init_41 : decode cX6_init 41 = .ok (.dup, 1) := by decide +kernel
theorem dX6_init_42 : decode cX6_init 42 = .ok (.invokespecial 28, 3) := by decide +kernel
theorem dX6_init_45 : decode cX6_init 45 = .ok (.putfield 29, 3) := by decide +kernel
theorem dX6_init_48 : decode cX6_init 48 = .ok (.return_, 1) := by decide +kernel
theorem dX6_bowl_0 : decode cX6_bowl 0 = .ok (.iload_n 1, 1) := by decide +kernel
theorem dX6_bowl_1 : decode cX6_bowl 1 = .ok (.iconst 0, 1) := by decide +kernel
theorem dX6_bowl_2 : decode cX6_bowl 2 = .ok (.sipush 6000, 3) := by decide +kernel
theorem dX6_bowl_5 : decode cX6_bowl 5 = .ok (.invokestatic 33, 3) := by decide +kernel
theorem dX6_bowl_8 : decode cX6_bowl 8 = .ok (.ifCond .eq 14, 3) := by decide +kernel
theorem dX6_bowl_11 : decode cX6_bowl 11 = .ok (.iload_n 2, 1) := by decide +kernel
theorem dX6_bowl_12 : decode cX6_bowl 12 = .ok (.iconst 1, 1) := by decide +kernel
theorem dX6_bowl_13 : decode cX6_bowl 13 = .ok (.sipush 2400, 3) := by decide +kernel
theorem dX6_bowl_16 : decode cX6_bowl 16 = .ok (.invokestatic 33, 3) := by decide +kernel
theorem dX6_bowl_19 : decode cX6_bowl 19 = .ok (.ifCond .ne 6, 3) := by decide +kernel
theorem dX6_bowl_22 : decode cX6_bowl 22 = .ok (.ldc 37, 2) := by decide +kernel
theorem dX6_bowl_24 : decode cX6_bowl 24 = .ok (.ireturn, 1) := by decide +kernel
theorem dX6_bowl_25 : decode cX6_bowl 25 = .ok (.aload_n 0, 1) := by decide +kernel
theorem dX6_bowl_26 : decode cX6_bowl 26 = .ok (.getfield 10, 3) := by decide +kernel
theorem dX6_bowl_29 : decode cX6_bowl 29 = .ok (.getfield 38, 3) := by decide +kernel
theorem dX6_bowl_32 : decode cX6_bowl 32 = .ok (.invokevirtual 42, 3) := by decide +kernel
theorem dX6_bowl_35 : decode cX6_bowl 35 = .ok (.bipush 10, 2) := by decide +kernel
theorem dX6_bowl_37 : decode cX6_bowl 37 = .ok (.if_icmp .lt 6, 3) := by decide +kernel
theorem dX6_bowl_40 : decode cX6_bowl 40 = .ok (.ldc 48, 2) := by decide +kernel
theorem dX6_bowl_42 : decode cX6_bowl 42 = .ok (.ireturn, 1) := by decide +kernel
theorem dX6_bowl_43 : decode cX6_bowl 43 = .ok (.aload_n 0, 1) := by decide +kernel
theorem dX6_bowl_44 : decode cX6_bowl 44 = .ok (.getfield 22, 3) := by decide +kernel
theorem dX6_bowl_47 : decode cX6_bowl 47 = .ok (.aload_n 0, 1) := by decide +kernel
theorem dX6_bowl_48 : decode cX6_bowl 48 = .ok (.getfield 10, 3) := by decide +kernel
theorem dX6_bowl_51 : decode cX6_bowl 51 = .ok (.invokevirtual 49, 3) := by decide +kernel
theorem dX6_bowl_54 : decode cX6_bowl 54 = .ok (.aload_n 0, 1) := by decide +kernel
theorem dX6_bowl_55 : decode cX6_bowl 55 = .ok (.getfield 10, 3) := by decide +kernel
theorem dX6_bowl_58 : decode cX6_bowl 58 = .ok (.getfield 38, 3) := by decide +kernel
theorem dX6_bowl_61 : decode cX6_bowl 61 = .ok (.iload_n 1, 1) := by decide +kernel
theorem dX6_bowl_62 : decode cX6_bowl 62 = .ok (.iload_n 2, 1) := by decide +kernel
theorem dX6_bowl_63 : decode cX6_bowl 63 = .ok (.invokevirtual 53, 3) := by decide +kernel
theorem dX6_bowl_66 : decode cX6_bowl 66 = .ok (.aload_n 0, 1) := by decide +kernel
theorem dX6_bowl_67 : decode cX6_bowl 67 = .ok (.getfield 10, 3) := by decide +kernel
theorem dX6_bowl_70 : decode cX6_bowl 70 = .ok (.getfield 38, 3) := by decide +kernel
theorem dX6_bowl_73 : decode cX6_bowl 73 = .ok (.invokevirtual 42, 3) := by decide +kernel
theorem dX6_bowl_76 : decode cX6_bowl 76 = .ok (.iconst 1, 1) := by decide +kernel
theorem dX6_bowl_77 : decode cX6_bowl 77 = .ok (.isub, 1) := by decide +kernel
theorem dX6_bowl_78 : decode cX6_bowl 78 = .ok (.ireturn, 1) := by decide +kernel
theorem dX6_remove_0 : decode cX6_remove 0 = .ok (.aload_n 0, 1) := by decide +kernel
theorem dX6_remove_1 : decode cX6_remove 1 = .ok (.getfield 10, 3) := by decide +kernel
theorem dX6_remove_4 : decode cX6_remove 4 = .ok (.getfield 38, 3) := by decide +kernel
theorem dX6_remove_7 : decode cX6_remove 7 = .ok (.iload_n 1, 1) := by decide +kernel
theorem dX6_remove_8 : decode cX6_remove 8 = .ok (.invokevirtual 57, 3) := by decide +kernel
theorem dX6_remove_11 : decode cX6_remove 11 = .ok (.ifCond .ne 6, 3) := by decide +kernel
theorem dX6_remove_14 : decode cX6_remove 14 = .ok (.ldc 37, 2) := by decide +kernel
theorem dX6_remove_16 : decode cX6_remove 16 = .ok (.ireturn, 1) := by decide +kernel
theorem dX6_remove_17 : decode cX6_remove 17 = .ok (.aload_n 0, 1) := by decide +kernel
theorem dX6_remove_18 : decode cX6_remove 18 = .ok (.getfield 22, 3) := by decide +kernel
theorem dX6_remove_21 : decode cX6_remove 21 = .ok (.aload_n 0, 1) := by decide +kernel
theorem dX6_remove_22 : decode cX6_remove 22 = .ok (.getfield 10, 3) := by decide +kernel
theorem dX6_remove_25 : decode cX6_remove 25 = .ok (.invokevirtual 49, 3) := by decide +kernel
theorem dX6_remove_28 : decode cX6_remove 28 = .ok (.aload_n 0, 1) := by decide +kernel
theorem dX6_remove_29 : decode cX6_remove 29 = .ok (.getfield 10, 3) := by decide +kernel
theorem dX6_remove_32 : decode cX6_remove 32 = .ok (.getfield 38, 3) := by decide +kernel
theorem dX6_remove_35 : decode cX6_remove 35 = .ok (.iload_n 1, 1) := by decide +kernel
theorem dX6_remove_36 : decode cX6_remove 36 = .ok (.invokevirtual 61, 3) := by decide +kernel
theorem dX6_remove_39 : decode cX6_remove 39 = .ok (.aload_n 0, 1) := by decide +kernel
theorem dX6_remove_40 : decode cX6_remove 40 = .ok (.getfield 10, 3) := by decide +kernel
theorem dX6_remove_43 : decode cX6_remove 43 = .ok (.getfield 38, 3) := by decide +kernel
theorem dX6_remove_46 : decode cX6_remove 46 = .ok (.invokevirtual 42, 3) := by decide +kernel
theorem dX6_remove_49 : decode cX6_remove 49 = .ok (.ireturn, 1) := by decide +kernel
theorem dX6_pour_0 : decode cX6_pour 0 = .ok (.aload_n 0, 1) := by decide +kernel
theorem dX6_pour_1 : decode cX6_pour 1 = .ok (.getfield 10, 3) := by decide +kernel
theorem dX6_pour_4 : decode cX6_pour 4 = .ok (.getfield 38, 3) := by decide +kernel
theorem dX6_pour_7 : decode cX6_pour 7 = .ok (.iload_n 1, 1) := by decide +kernel
theorem dX6_pour_8 : decode cX6_pour 8 = .ok (.invokevirtual 57, 3) := by decide +kernel
theorem dX6_pour_11 : decode cX6_pour 11 = .ok (.ifCond .eq 14, 3) := by decide +kernel
theorem dX6_pour_14 : decode cX6_pour 14 = .ok (.iload_n 2, 1) := by decide +kernel
theorem dX6_pour_15 : decode cX6_pour 15 = .ok (.iconst 1, 1) := by decide +kernel
theorem dX6_pour_16 : decode cX6_pour 16 = .ok (.sipush 1000, 3) := by decide +kernel
theorem dX6_pour_19 : decode cX6_pour 19 = .ok (.invokestatic 33, 3) := by decide +kernel
theorem dX6_pour_22 : decode cX6_pour 22 = .ok (.ifCond .ne 6, 3) := by decide +kernel
theorem dX6_pour_25 : decode cX6_pour 25 = .ok (.ldc 37, 2) := by decide +kernel
theorem dX6_pour_27 : decode cX6_pour 27 = .ok (.ireturn, 1) := by decide +kernel
theorem dX6_pour_28 : decode cX6_pour 28 = .ok (.aload_n 0, 1) := by decide +kernel
theorem dX6_pour_29 : decode cX6_pour 29 = .ok (.getfield 10, 3) := by decide +kernel
theorem dX6_pour_32 : decode cX6_pour 32 = .ok (.getfield 38, 3) := by decide +kernel
theorem dX6_pour_35 : decode cX6_pour 35 = .ok (.iload_n 1, 1) := by decide +kernel
theorem dX6_pour_36 : decode cX6_pour 36 = .ok (.invokevirtual 65, 3) := by decide +kernel
theorem dX6_pour_39 : decode cX6_pour 39 = .ok (.iload_n 2, 1) := by decide +kernel
theorem dX6_pour_40 : decode cX6_pour 40 = .ok (.iadd, 1) := by decide +kernel
theorem dX6_pour_41 : decode cX6_pour 41 = .ok (.sipush 1000, 3) := by decide +kernel
theorem dX6_pour_44 : decode cX6_pour 44 = .ok (.if_icmp .le 6, 3) := by decide +kernel
theorem dX6_pour_47 : decode cX6_pour 47 = .ok (.ldc 48, 2) := by decide +kernel
theorem dX6_pour_49 : decode cX6_pour 49 = .ok (.ireturn, 1) := by decide +kernel
theorem dX6_pour_50 : decode cX6_pour 50 = .ok (.aload_n 0, 1) := by decide +kernel
theorem dX6_pour_51 : decode cX6_pour 51 = .ok (.getfield 22, 3) := by decide +kernel
theorem dX6_pour_54 : decode cX6_pour 54 = .ok (.aload_n 0, 1) := by decide +kernel
theorem dX6_pour_55 : decode cX6_pour 55 = .ok (.getfield 10, 3) := by decide +kernel
theorem dX6_pour_58 : decode cX6_pour 58 = .ok (.invokevirtual 49, 3) := by decide +kernel
theorem dX6_pour_61 : decode cX6_pour 61 = .ok (.aload_n 0, 1) := by decide +kernel
theorem dX6_pour_62 : decode cX6_pour 62 = .ok (.getfield 10, 3) := by decide +kernel
theorem dX6_pour_65 : decode cX6_pour 65 = .ok (.getfield 38, 3) := by decide +kernel
theorem dX6_pour_68 : decode cX6_pour 68 = .ok (.iload_n 1, 1) := by decide +kernel
theorem dX6_pour_69 : decode cX6_pour 69 = .ok (.iload_n 2, 1) := by decide +kernel
theorem dX6_pour_70 : decode cX6_pour 70 = .ok (.invokevirtual 69, 3) := by decide +kernel
theorem dX6_pour_73 : decode cX6_pour 73 = .ok (.aload_n 0, 1) := by decide +kernel
theorem dX6_pour_74 : decode cX6_pour 74 = .ok (.getfield 10, 3) := by decide +kernel
theorem dX6_pour_77 : decode cX6_pour 77 = .ok (.getfield 38, 3) := by decide +kernel
theorem dX6_pour_80 : decode cX6_pour 80 = .ok (.iload_n 1, 1) := by decide +kernel
theorem dX6_pour_81 : decode cX6_pour 81 = .ok (.invokevirtual 65, 3) := by decide +kernel
theorem dX6_pour_84 : decode cX6_pour 84 = .ok (.ireturn, 1) := by decide +kernel
theorem dX6_spill_0 : decode cX6_spill 0 = .ok (.aload_n 0, 1) := by decide +kernel
theorem dX6_spill_1 : decode cX6_spill 1 = .ok (.getfield 10, 3) := by decide +kernel
theorem dX6_spill_4 : decode cX6_spill 4 = .ok (.getfield 38, 3) := by decide +kernel
theorem dX6_spill_7 : decode cX6_spill 7 = .ok (.iload_n 1, 1) := by decide +kernel
theorem dX6_spill_8 : decode cX6_spill 8 = .ok (.invokevirtual 57, 3) := by decide +kernel
theorem dX6_spill_11 : decode cX6_spill 11 = .ok (.ifCond .eq 14, 3) := by decide +kernel
theorem dX6_spill_14 : decode cX6_spill 14 = .ok (.iload_n 2, 1) := by decide +kernel
theorem dX6_spill_15 : decode cX6_spill 15 = .ok (.iconst 1, 1) := by decide +kernel
theorem dX6_spill_16 : decode cX6_spill 16 = .ok (.sipush 1000, 3) := by decide +kernel
theorem dX6_spill_19 : decode cX6_spill 19 = .ok (.invokestatic 33, 3) := by decide +kernel
theorem dX6_spill_22 : decode cX6_spill 22 = .ok (.ifCond .ne 6, 3) := by decide +kernel
theorem dX6_spill_25 : decode cX6_spill 25 = .ok (.ldc 37, 2) := by decide +kernel
theorem dX6_spill_27 : decode cX6_spill 27 = .ok (.ireturn, 1) := by decide +kernel
theorem dX6_spill_28 : decode cX6_spill 28 = .ok (.aload_n 0, 1) := by decide +kernel
theorem dX6_spill_29 : decode cX6_spill 29 = .ok (.getfield 10, 3) := by decide +kernel
theorem dX6_spill_32 : decode cX6_spill 32 = .ok (.getfield 38, 3) := by decide +kernel
theorem dX6_spill_35 : decode cX6_spill 35 = .ok (.iload_n 1, 1) := by decide +kernel
theorem dX6_spill_36 : decode cX6_spill 36 = .ok (.invokevirtual 65, 3) := by decide +kernel
theorem dX6_spill_39 : decode cX6_spill 39 = .ok (.iload_n 2, 1) := by decide +kernel
theorem dX6_spill_40 : decode cX6_spill 40 = .ok (.if_icmp .ge 6, 3) := by decide +kernel
theorem dX6_spill_43 : decode cX6_spill 43 = .ok (.ldc 72, 2) := by decide +kernel
theorem dX6_spill_45 : decode cX6_spill 45 = .ok (.ireturn, 1) := by decide +kernel
theorem dX6_spill_46 : decode cX6_spill 46 = .ok (.aload_n 0, 1) := by decide +kernel
theorem dX6_spill_47 : decode cX6_spill 47 = .ok (.getfield 22, 3) := by decide +kernel
theorem dX6_spill_50 : decode cX6_spill 50 = .ok (.aload_n 0, 1) := by decide +kernel
theorem dX6_spill_51 : decode cX6_spill 51 = .ok (.getfield 10, 3) := by decide +kernel
theorem dX6_spill_54 : decode cX6_spill 54 = .ok (.invokevirtual 49, 3) := by decide +kernel
theorem dX6_spill_57 : decode cX6_spill 57 = .ok (.aload_n 0, 1) := by decide +kernel
theorem dX6_spill_58 : decode cX6_spill 58 = .ok (.getfield 10, 3) := by decide +kernel
theorem dX6_spill_61 : decode cX6_spill 61 = .ok (.getfield 38, 3) := by decide +kernel
theorem dX6_spill_64 : decode cX6_spill 64 = .ok (.iload_n 1, 1) := by decide +kernel
theorem dX6_spill_65 : decode cX6_spill 65 = .ok (.iload_n 2, 1) := by decide +kernel
theorem dX6_spill_66 : decode cX6_spill 66 = .ok (.invokevirtual 73, 3) := by decide +kernel
theorem dX6_spill_69 : decode cX6_spill 69 = .ok (.aload_n 0, 1) := by decide +kernel
theorem dX6_spill_70 : decode cX6_spill 70 = .ok (.getfield 10, 3) := by decide +kernel
theorem dX6_spill_73 : decode cX6_spill 73 = .ok (.getfield 38, 3) := by decide +kernel
theorem dX6_spill_76 : decode cX6_spill 76 = .ok (.iload_n 1, 1) := by decide +kernel
theorem dX6_spill_77 : decode cX6_spill 77 = .ok (.invokevirtual 65, 3) := by decide +kernel
theorem dX6_spill_80 : decode cX6_spill 80 = .ok (.ireturn, 1) := by decide +kernel
theorem dX6_crack_0 : decode cX6_crack 0 = .ok (.aload_n 0, 1) := by decide +kernel
theorem dX6_crack_1 : decode cX6_crack 1 = .ok (.getfield 10, 3) := by decide +kernel
theorem dX6_crack_4 : decode cX6_crack 4 = .ok (.getfield 38, 3) := by decide +kernel
theorem dX6_crack_7 : decode cX6_crack 7 = .ok (.iload_n 1, 1) := by decide +kernel
theorem dX6_crack_8 : decode cX6_crack 8 = .ok (.invokevirtual 57, 3) := by decide +kernel
theorem dX6_crack_11 : decode cX6_crack 11 = .ok (.ifCond .eq 14, 3) := by decide +kernel
theorem dX6_crack_14 : decode cX6_crack 14 = .ok (.iload_n 2, 1) := by decide +kernel
theorem dX6_crack_15 : decode cX6_crack 15 = .ok (.iconst 0, 1) := by decide +kernel
theorem dX6_crack_16 : decode cX6_crack 16 = .ok (.sipush 1000, 3) := by decide +kernel
theorem dX6_crack_19 : decode cX6_crack 19 = .ok (.invokestatic 33, 3) := by decide +kernel
theorem dX6_crack_22 : decode cX6_crack 22 = .ok (.ifCond .ne 6, 3) := by decide +kernel
theorem dX6_crack_25 : decode cX6_crack 25 = .ok (.ldc 37, 2) := by decide +kernel
theorem dX6_crack_27 : decode cX6_crack 27 = .ok (.ireturn, 1) := by decide +kernel
theorem dX6_crack_28 : decode cX6_crack 28 = .ok (.aload_n 0, 1) := by decide +kernel
theorem dX6_crack_29 : decode cX6_crack 29 = .ok (.getfield 22, 3) := by decide +kernel
theorem dX6_crack_32 : decode cX6_crack 32 = .ok (.aload_n 0, 1) := by decide +kernel
theorem dX6_crack_33 : decode cX6_crack 33 = .ok (.getfield 10, 3) := by decide +kernel
theorem dX6_crack_36 : decode cX6_crack 36 = .ok (.invokevirtual 49, 3) := by decide +kernel
theorem dX6_crack_39 : decode cX6_crack 39 = .ok (.aload_n 0, 1) := by decide +kernel
theorem dX6_crack_40 : decode cX6_crack 40 = .ok (.getfield 10, 3) := by decide +kernel
theorem dX6_crack_43 : decode cX6_crack 43 = .ok (.getfield 38, 3) := by decide +kernel
theorem dX6_crack_46 : decode cX6_crack 46 = .ok (.iload_n 1, 1) := by decide +kernel
theorem dX6_crack_47 : decode cX6_crack 47 = .ok (.invokevirtual 65, 3) := by decide +kernel
theorem dX6_crack_50 : decode cX6_crack 50 = .ok (.istore_n 3, 1) := by decide +kernel
theorem dX6_crack_51 : decode cX6_crack 51 = .ok (.aload_n 0, 1) := by decide +kernel
theorem dX6_crack_52 : decode cX6_crack 52 = .ok (.getfield 10, 3) := by decide +kernel
theorem dX6_crack_55 : decode cX6_crack 55 = .ok (.getfield 38, 3) := by decide +kernel
theorem dX6_crack_58 : decode cX6_crack 58 = .ok (.iload_n 1, 1) := by decide +kernel
theorem dX6_crack_59 : decode cX6_crack 59 = .ok (.iload_n 2, 1) := by decide +kernel
theorem dX6_crack_60 : decode cX6_crack 60 = .ok (.invokevirtual 76, 3) := by decide +kernel
theorem dX6_crack_63 : decode cX6_crack 63 = .ok (.iload_n 3, 1) := by decide +kernel
theorem dX6_crack_64 : decode cX6_crack 64 = .ok (.aload_n 0, 1) := by decide +kernel
theorem dX6_crack_65 : decode cX6_crack 65 = .ok (.getfield 10, 3) := by decide +kernel
theorem dX6_crack_68 : decode cX6_crack 68 = .ok (.getfield 38, 3) := by decide +kernel
theorem dX6_crack_71 : decode cX6_crack 71 = .ok (.iload_n 1, 1) := by decide +kernel
theorem dX6_crack_72 : decode cX6_crack 72 = .ok (.invokevirtual 65, 3) := by decide +kernel
theorem dX6_crack_75 : decode cX6_crack 75 = .ok (.isub, 1) := by decide +kernel
theorem dX6_crack_76 : decode cX6_crack 76 = .ok (.ireturn, 1) := by decide +kernel
theorem dX6_mark_0 : decode cX6_mark 0 = .ok (.aload_n 0, 1) := by decide +kernel
theorem dX6_mark_1 : decode cX6_mark 1 = .ok (.getfield 10, 3) := by decide +kernel
theorem dX6_mark_4 : decode cX6_mark 4 = .ok (.getfield 38, 3) := by decide +kernel
theorem dX6_mark_7 : decode cX6_mark 7 = .ok (.iload_n 1, 1) := by decide +kernel
theorem dX6_mark_8 : decode cX6_mark 8 = .ok (.invokevirtual 57, 3) := by decide +kernel
theorem dX6_mark_11 : decode cX6_mark 11 = .ok (.ifCond .eq 14, 3) := by decide +kernel
theorem dX6_mark_14 : decode cX6_mark 14 = .ok (.iload_n 2, 1) := by decide +kernel
theorem dX6_mark_15 : decode cX6_mark 15 = .ok (.iconst 0, 1) := by decide +kernel
theorem dX6_mark_16 : decode cX6_mark 16 = .ok (.sipush 1000, 3) := by decide +kernel
theorem dX6_mark_19 : decode cX6_mark 19 = .ok (.invokestatic 33, 3) := by decide +kernel
theorem dX6_mark_22 : decode cX6_mark 22 = .ok (.ifCond .ne 6, 3) := by decide +kernel
theorem dX6_mark_25 : decode cX6_mark 25 = .ok (.ldc 37, 2) := by decide +kernel
theorem dX6_mark_27 : decode cX6_mark 27 = .ok (.ireturn, 1) := by decide +kernel
theorem dX6_mark_28 : decode cX6_mark 28 = .ok (.aload_n 0, 1) := by decide +kernel
theorem dX6_mark_29 : decode cX6_mark 29 = .ok (.getfield 22, 3) := by decide +kernel
theorem dX6_mark_32 : decode cX6_mark 32 = .ok (.aload_n 0, 1) := by decide +kernel
theorem dX6_mark_33 : decode cX6_mark 33 = .ok (.getfield 10, 3) := by decide +kernel
theorem dX6_mark_36 : decode cX6_mark 36 = .ok (.invokevirtual 49, 3) := by decide +kernel
theorem dX6_mark_39 : decode cX6_mark 39 = .ok (.aload_n 0, 1) := by decide +kernel
theorem dX6_mark_40 : decode cX6_mark 40 = .ok (.getfield 10, 3) := by decide +kernel
theorem dX6_mark_43 : decode cX6_mark 43 = .ok (.getfield 38, 3) := by decide +kernel
theorem dX6_mark_46 : decode cX6_mark 46 = .ok (.iload_n 1, 1) := by decide +kernel
theorem dX6_mark_47 : decode cX6_mark 47 = .ok (.iload_n 2, 1) := by decide +kernel
theorem dX6_mark_48 : decode cX6_mark 48 = .ok (.invokevirtual 79, 3) := by decide +kernel
theorem dX6_mark_51 : decode cX6_mark 51 = .ok (.ireturn, 1) := by decide +kernel
theorem dX6_bowlOf_0 : decode cX6_bowlOf 0 = .ok (.aload_n 0, 1) := by decide +kernel
theorem dX6_bowlOf_1 : decode cX6_bowlOf 1 = .ok (.getfield 10, 3) := by decide +kernel
theorem dX6_bowlOf_4 : decode cX6_bowlOf 4 = .ok (.getfield 38, 3) := by decide +kernel
theorem dX6_bowlOf_7 : decode cX6_bowlOf 7 = .ok (.iload_n 1, 1) := by decide +kernel
theorem dX6_bowlOf_8 : decode cX6_bowlOf 8 = .ok (.invokevirtual 57, 3) := by decide +kernel
theorem dX6_bowlOf_11 : decode cX6_bowlOf 11 = .ok (.ifCond .ne 6, 3) := by decide +kernel
theorem dX6_bowlOf_14 : decode cX6_bowlOf 14 = .ok (.ldc 37, 2) := by decide +kernel
theorem dX6_bowlOf_16 : decode cX6_bowlOf 16 = .ok (.ireturn, 1) := by decide +kernel
theorem dX6_bowlOf_17 : decode cX6_bowlOf 17 = .ok (.aload_n 0, 1) := by decide +kernel
theorem dX6_bowlOf_18 : decode cX6_bowlOf 18 = .ok (.getfield 10, 3) := by decide +kernel
theorem dX6_bowlOf_21 : decode cX6_bowlOf 21 = .ok (.getfield 38, 3) := by decide +kernel
theorem dX6_bowlOf_24 : decode cX6_bowlOf 24 = .ok (.iload_n 1, 1) := by decide +kernel
theorem dX6_bowlOf_25 : decode cX6_bowlOf 25 = .ok (.iload_n 2, 1) := by decide +kernel
theorem dX6_bowlOf_26 : decode cX6_bowlOf 26 = .ok (.invokevirtual 83, 3) := by decide +kernel
theorem dX6_bowlOf_29 : decode cX6_bowlOf 29 = .ok (.ireturn, 1) := by decide +kernel
theorem dX6_levelFor_0 : decode cX6_levelFor 0 = .ok (.aload_n 0, 1) := by decide +kernel
theorem dX6_levelFor_1 : decode cX6_levelFor 1 = .ok (.getfield 10, 3) := by decide +kernel
theorem dX6_levelFor_4 : decode cX6_levelFor 4 = .ok (.getfield 38, 3) := by decide +kernel
theorem dX6_levelFor_7 : decode cX6_levelFor 7 = .ok (.iload_n 1, 1) := by decide +kernel
theorem dX6_levelFor_8 : decode cX6_levelFor 8 = .ok (.invokevirtual 57, 3) := by decide +kernel
theorem dX6_levelFor_11 : decode cX6_levelFor 11 = .ok (.ifCond .eq 16, 3) := by decide +kernel
theorem dX6_levelFor_14 : decode cX6_levelFor 14 = .ok (.iload_n 2, 1) := by decide +kernel
theorem dX6_levelFor_15 : decode cX6_levelFor 15 = .ok (.sipush (-3000), 3) := by decide +kernel
theorem dX6_levelFor_18 : decode cX6_levelFor 18 = .ok (.sipush 6000, 3) := by decide +kernel
theorem dX6_levelFor_21 : decode cX6_levelFor 21 = .ok (.invokestatic 33, 3) := by decide +kernel
theorem dX6_levelFor_24 : decode cX6_levelFor 24 = .ok (.ifCond .ne 6, 3) := by decide +kernel
theorem dX6_levelFor_27 : decode cX6_levelFor 27 = .ok (.ldc 37, 2) := by decide +kernel
theorem dX6_levelFor_29 : decode cX6_levelFor 29 = .ok (.ireturn, 1) := by decide +kernel
theorem dX6_levelFor_30 : decode cX6_levelFor 30 = .ok (.aload_n 0, 1) := by decide +kernel
theorem dX6_levelFor_31 : decode cX6_levelFor 31 = .ok (.getfield 10, 3) := by decide +kernel
theorem dX6_levelFor_34 : decode cX6_levelFor 34 = .ok (.getfield 38, 3) := by decide +kernel
theorem dX6_levelFor_37 : decode cX6_levelFor 37 = .ok (.iload_n 1, 1) := by decide +kernel
theorem dX6_levelFor_38 : decode cX6_levelFor 38 = .ok (.iload_n 2, 1) := by decide +kernel
theorem dX6_levelFor_39 : decode cX6_levelFor 39 = .ok (.invokevirtual 86, 3) := by decide +kernel
theorem dX6_levelFor_42 : decode cX6_levelFor 42 = .ok (.ireturn, 1) := by decide +kernel
theorem dX6_nearest_0 : decode cX6_nearest 0 = .ok (.iload_n 1, 1) := by decide +kernel
theorem dX6_nearest_1 : decode cX6_nearest 1 = .ok (.iconst 0, 1) := by decide +kernel
theorem dX6_nearest_2 : decode cX6_nearest 2 = .ok (.sipush 6000, 3) := by decide +kernel
theorem dX6_nearest_5 : decode cX6_nearest 5 = .ok (.invokestatic 33, 3) := by decide +kernel
theorem dX6_nearest_8 : decode cX6_nearest 8 = .ok (.ifCond .ne 6, 3) := by decide +kernel
theorem dX6_nearest_11 : decode cX6_nearest 11 = .ok (.ldc 37, 2) := by decide +kernel
theorem dX6_nearest_13 : decode cX6_nearest 13 = .ok (.ireturn, 1) := by decide +kernel
theorem dX6_nearest_14 : decode cX6_nearest 14 = .ok (.aload_n 0, 1) := by decide +kernel
theorem dX6_nearest_15 : decode cX6_nearest 15 = .ok (.getfield 10, 3) := by decide +kernel
theorem dX6_nearest_18 : decode cX6_nearest 18 = .ok (.getfield 38, 3) := by decide +kernel
theorem dX6_nearest_21 : decode cX6_nearest 21 = .ok (.iload_n 1, 1) := by decide +kernel
theorem dX6_nearest_22 : decode cX6_nearest 22 = .ok (.invokevirtual 89, 3) := by decide +kernel
theorem dX6_nearest_25 : decode cX6_nearest 25 = .ok (.invokestatic 92, 3) := by decide +kernel
theorem dX6_nearest_28 : decode cX6_nearest 28 = .ok (.ireturn, 1) := by decide +kernel
theorem dX6_set_0 : decode cX6_set 0 = .ok (.iload_n 1, 1) := by decide +kernel
theorem dX6_set_1 : decode cX6_set 1 = .ok (.iload_n 2, 1) := by decide +kernel
theorem dX6_set_2 : decode cX6_set 2 = .ok (.invokestatic 95, 3) := by decide +kernel
theorem dX6_set_5 : decode cX6_set 5 = .ok (.ifCond .ne 6, 3) := by decide +kernel
theorem dX6_set_8 : decode cX6_set 8 = .ok (.ldc 37, 2) := by decide +kernel
theorem dX6_set_10 : decode cX6_set 10 = .ok (.ireturn, 1) := by decide +kernel
theorem dX6_set_11 : decode cX6_set 11 = .ok (.aload_n 0, 1) := by decide +kernel
theorem dX6_set_12 : decode cX6_set 12 = .ok (.getfield 22, 3) := by decide +kernel
theorem dX6_set_15 : decode cX6_set 15 = .ok (.aload_n 0, 1) := by decide +kernel
theorem dX6_set_16 : decode cX6_set 16 = .ok (.getfield 10, 3) := by decide +kernel
theorem dX6_set_19 : decode cX6_set 19 = .ok (.invokevirtual 49, 3) := by decide +kernel
theorem dX6_set_22 : decode cX6_set 22 = .ok (.aload_n 0, 1) := by decide +kernel
theorem dX6_set_23 : decode cX6_set 23 = .ok (.getfield 10, 3) := by decide +kernel
theorem dX6_set_26 : decode cX6_set 26 = .ok (.iload_n 1, 1) := by decide +kernel
theorem dX6_set_27 : decode cX6_set 27 = .ok (.iload_n 2, 1) := by decide +kernel
theorem dX6_set_28 : decode cX6_set 28 = .ok (.invokevirtual 99, 3) := by decide +kernel
theorem dX6_set_31 : decode cX6_set 31 = .ok (.ireturn, 1) := by decide +kernel
theorem dX6_count_0 : decode cX6_count 0 = .ok (.iload_n 1, 1) := by decide +kernel
theorem dX6_count_1 : decode cX6_count 1 = .ok (.bipush 10, 2) := by decide +kernel
theorem dX6_count_3 : decode cX6_count 3 = .ok (.bipush 13, 2) := by decide +kernel
theorem dX6_count_5 : decode cX6_count 5 = .ok (.invokestatic 33, 3) := by decide +kernel
theorem dX6_count_8 : decode cX6_count 8 = .ok (.ifCond .eq 15, 3) := by decide +kernel
theorem dX6_count_11 : decode cX6_count 11 = .ok (.aload_n 0, 1) := by decide +kernel
theorem dX6_count_12 : decode cX6_count 12 = .ok (.getfield 10, 3) := by decide +kernel
theorem dX6_count_15 : decode cX6_count 15 = .ok (.iload_n 1, 1) := by decide +kernel
theorem dX6_count_16 : decode cX6_count 16 = .ok (.bipush 10, 2) := by decide +kernel
theorem dX6_count_18 : decode cX6_count 18 = .ok (.isub, 1) := by decide +kernel
theorem dX6_count_19 : decode cX6_count 19 = .ok (.invokevirtual 102, 3) := by decide +kernel
theorem dX6_count_22 : decode cX6_count 22 = .ok (.ireturn, 1) := by decide +kernel
theorem dX6_count_23 : decode cX6_count 23 = .ok (.iload_n 1, 1) := by decide +kernel
theorem dX6_count_24 : decode cX6_count 24 = .ok (.bipush 20, 2) := by decide +kernel
theorem dX6_count_26 : decode cX6_count 26 = .ok (.bipush 24, 2) := by decide +kernel
theorem dX6_count_28 : decode cX6_count 28 = .ok (.invokestatic 33, 3) := by decide +kernel
theorem dX6_count_31 : decode cX6_count 31 = .ok (.ifCond .eq 18, 3) := by decide +kernel
theorem dX6_count_34 : decode cX6_count 34 = .ok (.aload_n 0, 1) := by decide +kernel
theorem dX6_count_35 : decode cX6_count 35 = .ok (.getfield 10, 3) := by decide +kernel
theorem dX6_count_38 : decode cX6_count 38 = .ok (.getfield 38, 3) := by decide +kernel
theorem dX6_count_41 : decode cX6_count 41 = .ok (.iload_n 1, 1) := by decide +kernel
theorem dX6_count_42 : decode cX6_count 42 = .ok (.bipush 20, 2) := by decide +kernel
theorem dX6_count_44 : decode cX6_count 44 = .ok (.isub, 1) := by decide +kernel
theorem dX6_count_45 : decode cX6_count 45 = .ok (.invokevirtual 105, 3) := by decide +kernel
theorem dX6_count_48 : decode cX6_count 48 = .ok (.ireturn, 1) := by decide +kernel
theorem dX6_count_49 : decode cX6_count 49 = .ok (.iload_n 1, 1) := by decide +kernel
theorem dX6_count_50 : decode cX6_count 50 = .ok (.tableswitch 150 0 8 #[50, 58, 69, 80, 99, 110, 122, 134, 142], 50) := by decide +kernel
theorem dX6_count_100 : decode cX6_count 100 = .ok (.aload_n 0, 1) := by decide +kernel
theorem dX6_count_101 : decode cX6_count 101 = .ok (.getfield 10, 3) := by decide +kernel
theorem dX6_count_104 : decode cX6_count 104 = .ok (.invokevirtual 108, 3) := by decide +kernel
theorem dX6_count_107 : decode cX6_count 107 = .ok (.ireturn, 1) := by decide +kernel
theorem dX6_count_108 : decode cX6_count 108 = .ok (.aload_n 0, 1) := by decide +kernel
theorem dX6_count_109 : decode cX6_count 109 = .ok (.getfield 10, 3) := by decide +kernel
theorem dX6_count_112 : decode cX6_count 112 = .ok (.getfield 38, 3) := by decide +kernel
theorem dX6_count_115 : decode cX6_count 115 = .ok (.invokevirtual 42, 3) := by decide +kernel
theorem dX6_count_118 : decode cX6_count 118 = .ok (.ireturn, 1) := by decide +kernel
theorem dX6_count_119 : decode cX6_count 119 = .ok (.aload_n 0, 1) := by decide +kernel
theorem dX6_count_120 : decode cX6_count 120 = .ok (.getfield 10, 3) := by decide +kernel
theorem dX6_count_123 : decode cX6_count 123 = .ok (.getfield 111, 3) := by decide +kernel
theorem dX6_count_126 : decode cX6_count 126 = .ok (.invokevirtual 115, 3) := by decide +kernel
theorem dX6_count_129 : decode cX6_count 129 = .ok (.ireturn, 1) := by decide +kernel
theorem dX6_count_130 : decode cX6_count 130 = .ok (.aload_n 0, 1) := by decide +kernel
theorem dX6_count_131 : decode cX6_count 131 = .ok (.getfield 10, 3) := by decide +kernel
theorem dX6_count_134 : decode cX6_count 134 = .ok (.getfield 111, 3) := by decide +kernel
theorem dX6_count_137 : decode cX6_count 137 = .ok (.aload_n 0, 1) := by decide +kernel
theorem dX6_count_138 : decode cX6_count 138 = .ok (.getfield 10, 3) := by decide +kernel
theorem dX6_count_141 : decode cX6_count 141 = .ok (.iconst 1, 1) := by decide +kernel
theorem dX6_count_142 : decode cX6_count 142 = .ok (.invokevirtual 102, 3) := by decide +kernel
theorem dX6_count_145 : decode cX6_count 145 = .ok (.invokevirtual 118, 3) := by decide +kernel
theorem dX6_count_148 : decode cX6_count 148 = .ok (.ireturn, 1) := by decide +kernel
theorem dX6_count_149 : decode cX6_count 149 = .ok (.aload_n 0, 1) := by decide +kernel
theorem dX6_count_150 : decode cX6_count 150 = .ok (.getfield 10, 3) := by decide +kernel
theorem dX6_count_153 : decode cX6_count 153 = .ok (.getfield 111, 3) := by decide +kernel
theorem dX6_count_156 : decode cX6_count 156 = .ok (.invokevirtual 121, 3) := by decide +kernel
theorem dX6_count_159 : decode cX6_count 159 = .ok (.ireturn, 1) := by decide +kernel
theorem dX6_count_160 : decode cX6_count 160 = .ok (.aload_n 0, 1) := by decide +kernel
theorem dX6_count_161 : decode cX6_count 161 = .ok (.getfield 10, 3) := by decide +kernel
theorem dX6_count_164 : decode cX6_count 164 = .ok (.getfield 111, 3) := by decide +kernel
theorem dX6_count_167 : decode cX6_count 167 = .ok (.iconst 3, 1) := by decide +kernel
theorem dX6_count_168 : decode cX6_count 168 = .ok (.invokevirtual 124, 3) := by decide +kernel
theorem dX6_count_171 : decode cX6_count 171 = .ok (.ireturn, 1) := by decide +kernel
theorem dX6_count_172 : decode cX6_count 172 = .ok (.aload_n 0, 1) := by decide +kernel
theorem dX6_count_173 : decode cX6_count 173 = .ok (.getfield 10, 3) := by decide +kernel
theorem dX6_count_176 : decode cX6_count 176 = .ok (.getfield 111, 3) := by decide +kernel
theorem dX6_count_179 : decode cX6_count 179 = .ok (.iconst 1, 1) := by decide +kernel
theorem dX6_count_180 : decode cX6_count 180 = .ok (.invokevirtual 124, 3) := by decide +kernel
theorem dX6_count_183 : decode cX6_count 183 = .ok (.ireturn, 1) := by decide +kernel
theorem dX6_count_184 : decode cX6_count 184 = .ok (.aload_n 0, 1) := by decide +kernel
theorem dX6_count_185 : decode cX6_count 185 = .ok (.getfield 22, 3) := by decide +kernel
theorem dX6_count_188 : decode cX6_count 188 = .ok (.invokevirtual 127, 3) := by decide +kernel
theorem dX6_count_191 : decode cX6_count 191 = .ok (.ireturn, 1) := by decide +kernel
theorem dX6_count_192 : decode cX6_count 192 = .ok (.aload_n 0, 1) := by decide +kernel
theorem dX6_count_193 : decode cX6_count 193 = .ok (.getfield 29, 3) := by decide +kernel
theorem dX6_count_196 : decode cX6_count 196 = .ok (.invokevirtual 128, 3) := by decide +kernel
theorem dX6_count_199 : decode cX6_count 199 = .ok (.ireturn, 1) := by decide +kernel
theorem dX6_count_200 : decode cX6_count 200 = .ok (.ldc 37, 2) := by decide +kernel
theorem dX6_count_202 : decode cX6_count 202 = .ok (.ireturn, 1) := by decide +kernel
theorem dX6_undo_0 : decode cX6_undo 0 = .ok (.aload_n 0, 1) := by decide +kernel
theorem dX6_undo_1 : decode cX6_undo 1 = .ok (.getfield 22, 3) := by decide +kernel
theorem dX6_undo_4 : decode cX6_undo 4 = .ok (.invokevirtual 127, 3) := by decide +kernel
theorem dX6_undo_7 : decode cX6_undo 7 = .ok (.ifCond .ne 6, 3) := by decide +kernel
theorem dX6_undo_10 : decode cX6_undo 10 = .ok (.ldc 72, 2) := by decide +kernel
theorem dX6_undo_12 : decode cX6_undo 12 = .ok (.ireturn, 1) := by decide +kernel
theorem dX6_undo_13 : decode cX6_undo 13 = .ok (.aload_n 0, 1) := by decide +kernel
theorem dX6_undo_14 : decode cX6_undo 14 = .ok (.getfield 22, 3) := by decide +kernel
theorem dX6_undo_17 : decode cX6_undo 17 = .ok (.aload_n 0, 1) := by decide +kernel
theorem dX6_undo_18 : decode cX6_undo 18 = .ok (.getfield 10, 3) := by decide +kernel
theorem dX6_undo_21 : decode cX6_undo 21 = .ok (.invokevirtual 131, 3) := by decide +kernel
theorem dX6_undo_24 : decode cX6_undo 24 = .ok (.aload_n 0, 1) := by decide +kernel
theorem dX6_undo_25 : decode cX6_undo 25 = .ok (.getfield 22, 3) := by decide +kernel
theorem dX6_undo_28 : decode cX6_undo 28 = .ok (.invokevirtual 127, 3) := by decide +kernel
theorem dX6_undo_31 : decode cX6_undo 31 = .ok (.ireturn, 1) := by decide +kernel
theorem dX6_note_0 : decode cX6_note 0 = .ok (.iload_n 1, 1) := by decide +kernel
theorem dX6_note_1 : decode cX6_note 1 = .ok (.iconst 0, 1) := by decide +kernel
theorem dX6_note_2 : decode cX6_note 2 = .ok (.sipush 3600, 3) := by decide +kernel
theorem dX6_note_5 : decode cX6_note 5 = .ok (.invokestatic 33, 3) := by decide +kernel
theorem dX6_note_8 : decode cX6_note 8 = .ok (.ifCond .eq 14, 3) := by decide +kernel
theorem dX6_note_11 : decode cX6_note 11 = .ok (.iload_n 2, 1) := by decide +kernel
theorem dX6_note_12 : decode cX6_note 12 = .ok (.iconst 0, 1) := by decide +kernel
theorem dX6_note_13 : decode cX6_note 13 = .ok (.sipush 6000, 3) := by decide +kernel
theorem dX6_note_16 : decode cX6_note 16 = .ok (.invokestatic 33, 3) := by decide +kernel
theorem dX6_note_19 : decode cX6_note 19 = .ok (.ifCond .ne 6, 3) := by decide +kernel
theorem dX6_note_22 : decode cX6_note 22 = .ok (.ldc 37, 2) := by decide +kernel
theorem dX6_note_24 : decode cX6_note 24 = .ok (.ireturn, 1) := by decide +kernel
theorem dX6_note_25 : decode cX6_note 25 = .ok (.aload_n 0, 1) := by decide +kernel
theorem dX6_note_26 : decode cX6_note 26 = .ok (.getfield 10, 3) := by decide +kernel
theorem dX6_note_29 : decode cX6_note 29 = .ok (.getfield 111, 3) := by decide +kernel
theorem dX6_note_32 : decode cX6_note 32 = .ok (.iload_n 1, 1) := by decide +kernel
theorem dX6_note_33 : decode cX6_note 33 = .ok (.invokevirtual 134, 3) := by decide +kernel
theorem dX6_note_36 : decode cX6_note 36 = .ok (.ifCond .eq 6, 3) := by decide +kernel
theorem dX6_note_39 : decode cX6_note 39 = .ok (.ldc 72, 2) := by decide +kernel
theorem dX6_note_41 : decode cX6_note 41 = .ok (.ireturn, 1) := by decide +kernel
theorem dX6_note_42 : decode cX6_note 42 = .ok (.aload_n 0, 1) := by decide +kernel
theorem dX6_note_43 : decode cX6_note 43 = .ok (.getfield 10, 3) := by decide +kernel
theorem dX6_note_46 : decode cX6_note 46 = .ok (.getfield 111, 3) := by decide +kernel
theorem dX6_note_49 : decode cX6_note 49 = .ok (.invokevirtual 137, 3) := by decide +kernel
theorem dX6_note_52 : decode cX6_note 52 = .ok (.ifCond .eq 6, 3) := by decide +kernel
theorem dX6_note_55 : decode cX6_note 55 = .ok (.ldc 48, 2) := by decide +kernel
theorem dX6_note_57 : decode cX6_note 57 = .ok (.ireturn, 1) := by decide +kernel
theorem dX6_note_58 : decode cX6_note 58 = .ok (.aload_n 0, 1) := by decide +kernel
theorem dX6_note_59 : decode cX6_note 59 = .ok (.getfield 22, 3) := by decide +kernel
theorem dX6_note_62 : decode cX6_note 62 = .ok (.aload_n 0, 1) := by decide +kernel
theorem dX6_note_63 : decode cX6_note 63 = .ok (.getfield 10, 3) := by decide +kernel
theorem dX6_note_66 : decode cX6_note 66 = .ok (.invokevirtual 49, 3) := by decide +kernel
theorem dX6_note_69 : decode cX6_note 69 = .ok (.aload_n 0, 1) := by decide +kernel
theorem dX6_note_70 : decode cX6_note 70 = .ok (.getfield 10, 3) := by decide +kernel
theorem dX6_note_73 : decode cX6_note 73 = .ok (.getfield 111, 3) := by decide +kernel
theorem dX6_note_76 : decode cX6_note 76 = .ok (.iload_n 1, 1) := by decide +kernel
theorem dX6_note_77 : decode cX6_note 77 = .ok (.iload_n 2, 1) := by decide +kernel
theorem dX6_note_78 : decode cX6_note 78 = .ok (.invokevirtual 141, 3) := by decide +kernel
theorem dX6_note_81 : decode cX6_note 81 = .ok (.ireturn, 1) := by decide +kernel
theorem dX6_drop_0 : decode cX6_drop 0 = .ok (.aload_n 0, 1) := by decide +kernel
theorem dX6_drop_1 : decode cX6_drop 1 = .ok (.getfield 10, 3) := by decide +kernel
theorem dX6_drop_4 : decode cX6_drop 4 = .ok (.getfield 111, 3) := by decide +kernel
theorem dX6_drop_7 : decode cX6_drop 7 = .ok (.iload_n 1, 1) := by decide +kernel
theorem dX6_drop_8 : decode cX6_drop 8 = .ok (.invokevirtual 144, 3) := by decide +kernel
theorem dX6_drop_11 : decode cX6_drop 11 = .ok (.ifCond .ne 6, 3) := by decide +kernel
theorem dX6_drop_14 : decode cX6_drop 14 = .ok (.ldc 37, 2) := by decide +kernel
theorem dX6_drop_16 : decode cX6_drop 16 = .ok (.ireturn, 1) := by decide +kernel
theorem dX6_drop_17 : decode cX6_drop 17 = .ok (.aload_n 0, 1) := by decide +kernel
theorem dX6_drop_18 : decode cX6_drop 18 = .ok (.getfield 22, 3) := by decide +kernel
theorem dX6_drop_21 : decode cX6_drop 21 = .ok (.aload_n 0, 1) := by decide +kernel
theorem dX6_drop_22 : decode cX6_drop 22 = .ok (.getfield 10, 3) := by decide +kernel
theorem dX6_drop_25 : decode cX6_drop 25 = .ok (.invokevirtual 49, 3) := by decide +kernel
theorem dX6_drop_28 : decode cX6_drop 28 = .ok (.aload_n 0, 1) := by decide +kernel
theorem dX6_drop_29 : decode cX6_drop 29 = .ok (.getfield 10, 3) := by decide +kernel
theorem dX6_drop_32 : decode cX6_drop 32 = .ok (.getfield 111, 3) := by decide +kernel
theorem dX6_drop_35 : decode cX6_drop 35 = .ok (.iload_n 1, 1) := by decide +kernel
theorem dX6_drop_36 : decode cX6_drop 36 = .ok (.invokevirtual 145, 3) := by decide +kernel
theorem dX6_drop_39 : decode cX6_drop 39 = .ok (.aload_n 0, 1) := by decide +kernel
theorem dX6_drop_40 : decode cX6_drop 40 = .ok (.getfield 10, 3) := by decide +kernel
theorem dX6_drop_43 : decode cX6_drop 43 = .ok (.getfield 111, 3) := by decide +kernel
theorem dX6_drop_46 : decode cX6_drop 46 = .ok (.invokevirtual 115, 3) := by decide +kernel
theorem dX6_drop_49 : decode cX6_drop 49 = .ok (.ireturn, 1) := by decide +kernel
theorem dX6_transpose_0 : decode cX6_transpose 0 = .ok (.aload_n 0, 1) := by decide +kernel
theorem dX6_transpose_1 : decode cX6_transpose 1 = .ok (.getfield 10, 3) := by decide +kernel
theorem dX6_transpose_4 : decode cX6_transpose 4 = .ok (.getfield 111, 3) := by decide +kernel
theorem dX6_transpose_7 : decode cX6_transpose 7 = .ok (.iload_n 1, 1) := by decide +kernel
theorem dX6_transpose_8 : decode cX6_transpose 8 = .ok (.invokevirtual 144, 3) := by decide +kernel
theorem dX6_transpose_11 : decode cX6_transpose 11 = .ok (.ifCond .eq 39, 3) := by decide +kernel
theorem dX6_transpose_14 : decode cX6_transpose 14 = .ok (.aload_n 0, 1) := by decide +kernel
theorem dX6_transpose_15 : decode cX6_transpose 15 = .ok (.getfield 10, 3) := by decide +kernel
theorem dX6_transpose_18 : decode cX6_transpose 18 = .ok (.getfield 111, 3) := by decide +kernel
theorem dX6_transpose_21 : decode cX6_transpose 21 = .ok (.iload_n 2, 1) := by decide +kernel
theorem dX6_transpose_22 : decode cX6_transpose 22 = .ok (.invokevirtual 144, 3) := by decide +kernel
theorem dX6_transpose_25 : decode cX6_transpose 25 = .ok (.ifCond .eq 25, 3) := by decide +kernel
theorem dX6_transpose_28 : decode cX6_transpose 28 = .ok (.iload_n 2, 1) := by decide +kernel
theorem dX6_transpose_29 : decode cX6_transpose 29 = .ok (.iload_n 1, 1) := by decide +kernel
theorem dX6_transpose_30 : decode cX6_transpose 30 = .ok (.if_icmp .lt 20, 3) := by decide +kernel
theorem dX6_transpose_33 : decode cX6_transpose 33 = .ok (.iload_n 3, 1) := by decide +kernel
theorem dX6_transpose_34 : decode cX6_transpose 34 = .ok (.sipush (-6000), 3) := by decide +kernel
theorem dX6_transpose_37 : decode cX6_transpose 37 = .ok (.sipush 6000, 3) := by decide +kernel
theorem dX6_transpose_40 : decode cX6_transpose 40 = .ok (.invokestatic 33, 3) := by decide +kernel
theorem dX6_transpose_43 : decode cX6_transpose 43 = .ok (.ifCond .eq 7, 3) := by decide +kernel
theorem dX6_transpose_46 : decode cX6_transpose 46 = .ok (.iload_n 3, 1) := by decide +kernel
theorem dX6_transpose_47 : decode cX6_transpose 47 = .ok (.ifCond .ne 6, 3) := by decide +kernel
theorem dX6_transpose_50 : decode cX6_transpose 50 = .ok (.ldc 37, 2) := by decide +kernel
theorem dX6_transpose_52 : decode cX6_transpose 52 = .ok (.ireturn, 1) := by decide +kernel
theorem dX6_transpose_53 : decode cX6_transpose 53 = .ok (.aload_n 0, 1) := by decide +kernel
theorem dX6_transpose_54 : decode cX6_transpose 54 = .ok (.getfield 10, 3) := by decide +kernel
theorem dX6_transpose_57 : decode cX6_transpose 57 = .ok (.getfield 111, 3) := by decide +kernel
theorem dX6_transpose_60 : decode cX6_transpose 60 = .ok (.iload_n 1, 1) := by decide +kernel
theorem dX6_transpose_61 : decode cX6_transpose 61 = .ok (.iload_n 2, 1) := by decide +kernel
theorem dX6_transpose_62 : decode cX6_transpose 62 = .ok (.iload_n 3, 1) := by decide +kernel
theorem dX6_transpose_63 : decode cX6_transpose 63 = .ok (.invokevirtual 146, 3) := by decide +kernel
theorem dX6_transpose_66 : decode cX6_transpose 66 = .ok (.ifCond .ne 6, 3) := by decide +kernel
theorem dX6_transpose_69 : decode cX6_transpose 69 = .ok (.ldc 72, 2) := by decide +kernel
theorem dX6_transpose_71 : decode cX6_transpose 71 = .ok (.ireturn, 1) := by decide +kernel
theorem dX6_transpose_72 : decode cX6_transpose 72 = .ok (.aload_n 0, 1) := by decide +kernel
theorem dX6_transpose_73 : decode cX6_transpose 73 = .ok (.getfield 22, 3) := by decide +kernel
theorem dX6_transpose_76 : decode cX6_transpose 76 = .ok (.aload_n 0, 1) := by decide +kernel
theorem dX6_transpose_77 : decode cX6_transpose 77 = .ok (.getfield 10, 3) := by decide +kernel
theorem dX6_transpose_80 : decode cX6_transpose 80 = .ok (.invokevirtual 49, 3) := by decide +kernel
theorem dX6_transpose_83 : decode cX6_transpose 83 = .ok (.aload_n 0, 1) := by decide +kernel
theorem dX6_transpose_84 : decode cX6_transpose 84 = .ok (.getfield 10, 3) := by decide +kernel
theorem dX6_transpose_87 : decode cX6_transpose 87 = .ok (.getfield 111, 3) := by decide +kernel
theorem dX6_transpose_90 : decode cX6_transpose 90 = .ok (.iload_n 1, 1) := by decide +kernel
theorem dX6_transpose_91 : decode cX6_transpose 91 = .ok (.iload_n 2, 1) := by decide +kernel
theorem dX6_transpose_92 : decode cX6_transpose 92 = .ok (.iload_n 3, 1) := by decide +kernel
theorem dX6_transpose_93 : decode cX6_transpose 93 = .ok (.invokevirtual 149, 3) := by decide +kernel
theorem dX6_transpose_96 : decode cX6_transpose 96 = .ok (.iload_n 2, 1) := by decide +kernel
theorem dX6_transpose_97 : decode cX6_transpose 97 = .ok (.iload_n 1, 1) := by decide +kernel
theorem dX6_transpose_98 : decode cX6_transpose 98 = .ok (.isub, 1) := by decide +kernel
theorem dX6_transpose_99 : decode cX6_transpose 99 = .ok (.iconst 1, 1) := by decide +kernel
theorem dX6_transpose_100 : decode cX6_transpose 100 = .ok (.iadd, 1) := by decide +kernel
theorem dX6_transpose_101 : decode cX6_transpose 101 = .ok (.ireturn, 1) := by decide +kernel
theorem dX6_noteOf_0 : decode cX6_noteOf 0 = .ok (.aload_n 0, 1) := by decide +kernel
theorem dX6_noteOf_1 : decode cX6_noteOf 1 = .ok (.getfield 10, 3) := by decide +kernel
theorem dX6_noteOf_4 : decode cX6_noteOf 4 = .ok (.getfield 111, 3) := by decide +kernel
theorem dX6_noteOf_7 : decode cX6_noteOf 7 = .ok (.iload_n 1, 1) := by decide +kernel
theorem dX6_noteOf_8 : decode cX6_noteOf 8 = .ok (.invokevirtual 144, 3) := by decide +kernel
theorem dX6_noteOf_11 : decode cX6_noteOf 11 = .ok (.ifCond .ne 6, 3) := by decide +kernel
theorem dX6_noteOf_14 : decode cX6_noteOf 14 = .ok (.ldc 37, 2) := by decide +kernel
theorem dX6_noteOf_16 : decode cX6_noteOf 16 = .ok (.ireturn, 1) := by decide +kernel
theorem dX6_noteOf_17 : decode cX6_noteOf 17 = .ok (.aload_n 0, 1) := by decide +kernel
theorem dX6_noteOf_18 : decode cX6_noteOf 18 = .ok (.getfield 10, 3) := by decide +kernel
theorem dX6_noteOf_21 : decode cX6_noteOf 21 = .ok (.getfield 111, 3) := by decide +kernel
theorem dX6_noteOf_24 : decode cX6_noteOf 24 = .ok (.iload_n 1, 1) := by decide +kernel
theorem dX6_noteOf_25 : decode cX6_noteOf 25 = .ok (.iload_n 2, 1) := by decide +kernel
theorem dX6_noteOf_26 : decode cX6_noteOf 26 = .ok (.aload_n 0, 1) := by decide +kernel
theorem dX6_noteOf_27 : decode cX6_noteOf 27 = .ok (.getfield 10, 3) := by decide +kernel
theorem dX6_noteOf_30 : decode cX6_noteOf 30 = .ok (.iconst 1, 1) := by decide +kernel
theorem dX6_noteOf_31 : decode cX6_noteOf 31 = .ok (.invokevirtual 102, 3) := by decide +kernel
theorem dX6_noteOf_34 : decode cX6_noteOf 34 = .ok (.invokevirtual 153, 3) := by decide +kernel
theorem dX6_noteOf_37 : decode cX6_noteOf 37 = .ok (.ireturn, 1) := by decide +kernel
theorem dX6_run_0 : decode cX6_run 0 = .ok (.iload_n 1, 1) := by decide +kernel
theorem dX6_run_1 : decode cX6_run 1 = .ok (.iconst 1, 1) := by decide +kernel
theorem dX6_run_2 : decode cX6_run 2 = .ok (.sipush 600, 3) := by decide +kernel
theorem dX6_run_5 : decode cX6_run 5 = .ok (.invokestatic 33, 3) := by decide +kernel
theorem dX6_run_8 : decode cX6_run 8 = .ok (.ifCond .ne 6, 3) := by decide +kernel
theorem dX6_run_11 : decode cX6_run 11 = .ok (.ldc 37, 2) := by decide +kernel
theorem dX6_run_13 : decode cX6_run 13 = .ok (.ireturn, 1) := by decide +kernel
theorem dX6_run_14 : decode cX6_run 14 = .ok (.aload_n 0, 1) := by decide +kernel
theorem dX6_run_15 : decode cX6_run 15 = .ok (.getfield 10, 3) := by decide +kernel
theorem dX6_run_18 : decode cX6_run 18 = .ok (.invokevirtual 108, 3) := by decide +kernel
theorem dX6_run_21 : decode cX6_run 21 = .ok (.iload_n 1, 1) := by decide +kernel
theorem dX6_run_22 : decode cX6_run 22 = .ok (.iadd, 1) := by decide +kernel
theorem dX6_run_23 : decode cX6_run 23 = .ok (.istore_n 2, 1) := by decide +kernel
theorem dX6_run_24 : decode cX6_run 24 = .ok (.iload_n 2, 1) := by decide +kernel
theorem dX6_run_25 : decode cX6_run 25 = .ok (.sipush 3600, 3) := by decide +kernel
theorem dX6_run_28 : decode cX6_run 28 = .ok (.if_icmp .le 6, 3) := by decide +kernel
theorem dX6_run_31 : decode cX6_run 31 = .ok (.ldc 48, 2) := by decide +kernel
theorem dX6_run_33 : decode cX6_run 33 = .ok (.ireturn, 1) := by decide +kernel
theorem dX6_run_34 : decode cX6_run 34 = .ok (.aload_n 0, 1) := by decide +kernel
theorem dX6_run_35 : decode cX6_run 35 = .ok (.getfield 22, 3) := by decide +kernel
theorem dX6_run_38 : decode cX6_run 38 = .ok (.aload_n 0, 1) := by decide +kernel
theorem dX6_run_39 : decode cX6_run 39 = .ok (.getfield 10, 3) := by decide +kernel
theorem dX6_run_42 : decode cX6_run 42 = .ok (.invokevirtual 49, 3) := by decide +kernel
theorem dX6_run_45 : decode cX6_run 45 = .ok (.aload_n 0, 1) := by decide +kernel
theorem dX6_run_46 : decode cX6_run 46 = .ok (.getfield 10, 3) := by decide +kernel
theorem dX6_run_49 : decode cX6_run 49 = .ok (.iload_n 2, 1) := by decide +kernel
theorem dX6_run_50 : decode cX6_run 50 = .ok (.invokevirtual 156, 3) := by decide +kernel
theorem dX6_run_53 : decode cX6_run 53 = .ok (.ireturn, 1) := by decide +kernel
theorem dX6_rewind_0 : decode cX6_rewind 0 = .ok (.aload_n 0, 1) := by decide +kernel
theorem dX6_rewind_1 : decode cX6_rewind 1 = .ok (.getfield 22, 3) := by decide +kernel
theorem dX6_rewind_4 : decode cX6_rewind 4 = .ok (.aload_n 0, 1) := by decide +kernel
theorem dX6_rewind_5 : decode cX6_rewind 5 = .ok (.getfield 10, 3) := by decide +kernel
theorem dX6_rewind_8 : decode cX6_rewind 8 = .ok (.invokevirtual 49, 3) := by decide +kernel
theorem dX6_rewind_11 : decode cX6_rewind 11 = .ok (.aload_n 0, 1) := by decide +kernel
theorem dX6_rewind_12 : decode cX6_rewind 12 = .ok (.getfield 10, 3) := by decide +kernel
theorem dX6_rewind_15 : decode cX6_rewind 15 = .ok (.invokevirtual 108, 3) := by decide +kernel
theorem dX6_rewind_18 : decode cX6_rewind 18 = .ok (.istore_n 1, 1) := by decide +kernel
theorem dX6_rewind_19 : decode cX6_rewind 19 = .ok (.aload_n 0, 1) := by decide +kernel
theorem dX6_rewind_20 : decode cX6_rewind 20 = .ok (.getfield 10, 3) := by decide +kernel
theorem dX6_rewind_23 : decode cX6_rewind 23 = .ok (.invokevirtual 159, 3) := by decide +kernel
theorem dX6_rewind_26 : decode cX6_rewind 26 = .ok (.iload_n 1, 1) := by decide +kernel
theorem dX6_rewind_27 : decode cX6_rewind 27 = .ok (.ireturn, 1) := by decide +kernel
theorem dX6_worst_0 : decode cX6_worst 0 = .ok (.iload_n 1, 1) := by decide +kernel
theorem dX6_worst_1 : decode cX6_worst 1 = .ok (.ifCond .ge 6, 3) := by decide +kernel
theorem dX6_worst_4 : decode cX6_worst 4 = .ok (.ldc 37, 2) := by decide +kernel
theorem dX6_worst_6 : decode cX6_worst 6 = .ok (.ireturn, 1) := by decide +kernel
theorem dX6_worst_7 : decode cX6_worst 7 = .ok (.aload_n 0, 1) := by decide +kernel
theorem dX6_worst_8 : decode cX6_worst 8 = .ok (.getfield 10, 3) := by decide +kernel
theorem dX6_worst_11 : decode cX6_worst 11 = .ok (.getfield 111, 3) := by decide +kernel
theorem dX6_worst_14 : decode cX6_worst 14 = .ok (.iload_n 1, 1) := by decide +kernel
theorem dX6_worst_15 : decode cX6_worst 15 = .ok (.invokevirtual 162, 3) := by decide +kernel
theorem dX6_worst_18 : decode cX6_worst 18 = .ok (.invokestatic 92, 3) := by decide +kernel
theorem dX6_worst_21 : decode cX6_worst 21 = .ok (.ireturn, 1) := by decide +kernel
theorem dX6_wouldBe_0 : decode cX6_wouldBe 0 = .ok (.aload_n 0, 1) := by decide +kernel
theorem dX6_wouldBe_1 : decode cX6_wouldBe 1 = .ok (.getfield 10, 3) := by decide +kernel
theorem dX6_wouldBe_4 : decode cX6_wouldBe 4 = .ok (.getfield 111, 3) := by decide +kernel
theorem dX6_wouldBe_7 : decode cX6_wouldBe 7 = .ok (.iload_n 1, 1) := by decide +kernel
theorem dX6_wouldBe_8 : decode cX6_wouldBe 8 = .ok (.invokevirtual 144, 3) := by decide +kernel
theorem dX6_wouldBe_11 : decode cX6_wouldBe 11 = .ok (.ifCond .ne 6, 3) := by decide +kernel
theorem dX6_wouldBe_14 : decode cX6_wouldBe 14 = .ok (.ldc 37, 2) := by decide +kernel
theorem dX6_wouldBe_16 : decode cX6_wouldBe 16 = .ok (.ireturn, 1) := by decide +kernel
theorem dX6_wouldBe_17 : decode cX6_wouldBe 17 = .ok (.aload_n 0, 1) := by decide +kernel
theorem dX6_wouldBe_18 : decode cX6_wouldBe 18 = .ok (.getfield 10, 3) := by decide +kernel
theorem dX6_wouldBe_21 : decode cX6_wouldBe 21 = .ok (.getfield 111, 3) := by decide +kernel
theorem dX6_wouldBe_24 : decode cX6_wouldBe 24 = .ok (.iload_n 1, 1) := by decide +kernel
theorem dX6_wouldBe_25 : decode cX6_wouldBe 25 = .ok (.invokevirtual 165, 3) := by decide +kernel
theorem dX6_wouldBe_28 : decode cX6_wouldBe 28 = .ok (.istore_n 2, 1) := by decide +kernel
theorem dX6_wouldBe_29 : decode cX6_wouldBe 29 = .ok (.iload_n 2, 1) := by decide +kernel
theorem dX6_wouldBe_30 : decode cX6_wouldBe 30 = .ok (.aload_n 0, 1) := by decide +kernel
theorem dX6_wouldBe_31 : decode cX6_wouldBe 31 = .ok (.getfield 10, 3) := by decide +kernel
theorem dX6_wouldBe_34 : decode cX6_wouldBe 34 = .ok (.invokevirtual 108, 3) := by decide +kernel
theorem dX6_wouldBe_37 : decode cX6_wouldBe 37 = .ok (.if_icmp .gt 6, 3) := by decide +kernel
theorem dX6_wouldBe_40 : decode cX6_wouldBe 40 = .ok (.ldc 72, 2) := by decide +kernel
theorem dX6_wouldBe_42 : decode cX6_wouldBe 42 = .ok (.ireturn, 1) := by decide +kernel
theorem dX6_wouldBe_43 : decode cX6_wouldBe 43 = .ok (.aload_n 0, 1) := by decide +kernel
theorem dX6_wouldBe_44 : decode cX6_wouldBe 44 = .ok (.getfield 10, 3) := by decide +kernel
theorem dX6_wouldBe_47 : decode cX6_wouldBe 47 = .ok (.getfield 38, 3) := by decide +kernel
theorem dX6_wouldBe_50 : decode cX6_wouldBe 50 = .ok (.invokevirtual 42, 3) := by decide +kernel
theorem dX6_wouldBe_53 : decode cX6_wouldBe 53 = .ok (.ifCond .ne 6, 3) := by decide +kernel
theorem dX6_wouldBe_56 : decode cX6_wouldBe 56 = .ok (.ldc 168, 2) := by decide +kernel
theorem dX6_wouldBe_58 : decode cX6_wouldBe 58 = .ok (.ireturn, 1) := by decide +kernel
theorem dX6_wouldBe_59 : decode cX6_wouldBe 59 = .ok (.aload_n 0, 1) := by decide +kernel
theorem dX6_wouldBe_60 : decode cX6_wouldBe 60 = .ok (.iload_n 2, 1) := by decide +kernel
theorem dX6_wouldBe_61 : decode cX6_wouldBe 61 = .ok (.invokevirtual 169, 3) := by decide +kernel
theorem dX6_wouldBe_64 : decode cX6_wouldBe 64 = .ok (.aload_n 0, 1) := by decide +kernel
theorem dX6_wouldBe_65 : decode cX6_wouldBe 65 = .ok (.getfield 16, 3) := by decide +kernel
theorem dX6_wouldBe_68 : decode cX6_wouldBe 68 = .ok (.getfield 111, 3) := by decide +kernel
theorem dX6_wouldBe_71 : decode cX6_wouldBe 71 = .ok (.iload_n 1, 1) := by decide +kernel
theorem dX6_wouldBe_72 : decode cX6_wouldBe 72 = .ok (.invokevirtual 172, 3) := by decide +kernel
theorem dX6_wouldBe_75 : decode cX6_wouldBe 75 = .ok (.ireturn, 1) := by decide +kernel
theorem dX6_firstFalse_0 : decode cX6_firstFalse 0 = .ok (.aload_n 0, 1) := by decide +kernel
theorem dX6_firstFalse_1 : decode cX6_firstFalse 1 = .ok (.sipush 3600, 3) := by decide +kernel
theorem dX6_firstFalse_4 : decode cX6_firstFalse 4 = .ok (.invokevirtual 169, 3) := by decide +kernel
theorem dX6_firstFalse_7 : decode cX6_firstFalse 7 = .ok (.aload_n 0, 1) := by decide +kernel
theorem dX6_firstFalse_8 : decode cX6_firstFalse 8 = .ok (.getfield 16, 3) := by decide +kernel
theorem dX6_firstFalse_11 : decode cX6_firstFalse 11 = .ok (.getfield 111, 3) := by decide +kernel
theorem dX6_firstFalse_14 : decode cX6_firstFalse 14 = .ok (.aload_n 0, 1) := by decide +kernel
theorem dX6_firstFalse_15 : decode cX6_firstFalse 15 = .ok (.getfield 10, 3) := by decide +kernel
theorem dX6_firstFalse_18 : decode cX6_firstFalse 18 = .ok (.invokevirtual 108, 3) := by decide +kernel
theorem dX6_firstFalse_21 : decode cX6_firstFalse 21 = .ok (.invokevirtual 175, 3) := by decide +kernel
theorem dX6_firstFalse_24 : decode cX6_firstFalse 24 = .ok (.invokestatic 92, 3) := by decide +kernel
theorem dX6_firstFalse_27 : decode cX6_firstFalse 27 = .ok (.ireturn, 1) := by decide +kernel
theorem dX6_leastTolerance_0 : decode cX6_leastTolerance 0 = .ok (.aload_n 0, 1) := by decide +kernel
theorem dX6_leastTolerance_1 : decode cX6_leastTolerance 1 = .ok (.sipush 3600, 3) := by decide +kernel
theorem dX6_leastTolerance_4 : decode cX6_leastTolerance 4 = .ok (.invokevirtual 169, 3) := by decide +kernel
theorem dX6_leastTolerance_7 : decode cX6_leastTolerance 7 = .ok (.aload_n 0, 1) := by decide +kernel
theorem dX6_leastTolerance_8 : decode cX6_leastTolerance 8 = .ok (.getfield 16, 3) := by decide +kernel
theorem dX6_leastTolerance_11 : decode cX6_leastTolerance 11 = .ok (.getfield 111, 3) := by decide +kernel
theorem dX6_leastTolerance_14 : decode cX6_leastTolerance 14 = .ok (.aload_n 0, 1) := by decide +kernel
theorem dX6_leastTolerance_15 : decode cX6_leastTolerance 15 = .ok (.getfield 10, 3) := by decide +kernel
theorem dX6_leastTolerance_18 : decode cX6_leastTolerance 18 = .ok (.invokevirtual 108, 3) := by decide +kernel
theorem dX6_leastTolerance_21 : decode cX6_leastTolerance 21 = .ok (.invokevirtual 178, 3) := by decide +kernel
theorem dX6_leastTolerance_24 : decode cX6_leastTolerance 24 = .ok (.invokestatic 92, 3) := by decide +kernel
theorem dX6_leastTolerance_27 : decode cX6_leastTolerance 27 = .ok (.ireturn, 1) := by decide +kernel
theorem dX6_pitchAt_0 : decode cX6_pitchAt 0 = .ok (.aload_n 0, 1) := by decide +kernel
theorem dX6_pitchAt_1 : decode cX6_pitchAt 1 = .ok (.getfield 10, 3) := by decide +kernel
theorem dX6_pitchAt_4 : decode cX6_pitchAt 4 = .ok (.getfield 38, 3) := by decide +kernel
theorem dX6_pitchAt_7 : decode cX6_pitchAt 7 = .ok (.iload_n 1, 1) := by decide +kernel
theorem dX6_pitchAt_8 : decode cX6_pitchAt 8 = .ok (.invokevirtual 57, 3) := by decide +kernel
theorem dX6_pitchAt_11 : decode cX6_pitchAt 11 = .ok (.ifCond .eq 20, 3) := by decide +kernel
theorem dX6_pitchAt_14 : decode cX6_pitchAt 14 = .ok (.iload_n 2, 1) := by decide +kernel
theorem dX6_pitchAt_15 : decode cX6_pitchAt 15 = .ok (.aload_n 0, 1) := by decide +kernel
theorem dX6_pitchAt_16 : decode cX6_pitchAt 16 = .ok (.getfield 10, 3) := by decide +kernel
theorem dX6_pitchAt_19 : decode cX6_pitchAt 19 = .ok (.invokevirtual 108, 3) := by decide +kernel
theorem dX6_pitchAt_22 : decode cX6_pitchAt 22 = .ok (.sipush 3600, 3) := by decide +kernel
theorem dX6_pitchAt_25 : decode cX6_pitchAt 25 = .ok (.invokestatic 33, 3) := by decide +kernel
theorem dX6_pitchAt_28 : decode cX6_pitchAt 28 = .ok (.ifCond .ne 6, 3) := by decide +kernel
theorem dX6_pitchAt_31 : decode cX6_pitchAt 31 = .ok (.ldc 37, 2) := by decide +kernel
theorem dX6_pitchAt_33 : decode cX6_pitchAt 33 = .ok (.ireturn, 1) := by decide +kernel
theorem dX6_pitchAt_34 : decode cX6_pitchAt 34 = .ok (.aload_n 0, 1) := by decide +kernel
theorem dX6_pitchAt_35 : decode cX6_pitchAt 35 = .ok (.iload_n 2, 1) := by decide +kernel
theorem dX6_pitchAt_36 : decode cX6_pitchAt 36 = .ok (.invokevirtual 169, 3) := by decide +kernel
theorem dX6_pitchAt_39 : decode cX6_pitchAt 39 = .ok (.aload_n 0, 1) := by decide +kernel
theorem dX6_pitchAt_40 : decode cX6_pitchAt 40 = .ok (.getfield 16, 3) := by decide +kernel
theorem dX6_pitchAt_43 : decode cX6_pitchAt 43 = .ok (.getfield 38, 3) := by decide +kernel
theorem dX6_pitchAt_46 : decode cX6_pitchAt 46 = .ok (.iload_n 1, 1) := by decide +kernel
theorem dX6_pitchAt_47 : decode cX6_pitchAt 47 = .ok (.invokevirtual 181, 3) := by decide +kernel
theorem dX6_pitchAt_50 : decode cX6_pitchAt 50 = .ok (.ireturn, 1) := by decide +kernel
theorem dX6_type_0 : decode cX6_type 0 = .ok (.iload_n 1, 1) := by decide +kernel
theorem dX6_type_1 : decode cX6_type 1 = .ok (.bipush 32, 2) := by decide +kernel
theorem dX6_type_3 : decode cX6_type 3 = .ok (.bipush 126, 2) := by decide +kernel
theorem dX6_type_5 : decode cX6_type 5 = .ok (.invokestatic 33, 3) := by decide +kernel
theorem dX6_type_8 : decode cX6_type 8 = .ok (.ifCond .ne 6, 3) := by decide +kernel
theorem dX6_type_11 : decode cX6_type 11 = .ok (.ldc 37, 2) := by decide +kernel
theorem dX6_type_13 : decode cX6_type 13 = .ok (.ireturn, 1) := by decide +kernel
theorem dX6_type_14 : decode cX6_type 14 = .ok (.aload_n 0, 1) := by decide +kernel
theorem dX6_type_15 : decode cX6_type 15 = .ok (.getfield 29, 3) := by decide +kernel
theorem dX6_type_18 : decode cX6_type 18 = .ok (.invokevirtual 128, 3) := by decide +kernel
theorem dX6_type_21 : decode cX6_type 21 = .ok (.bipush 100, 2) := by decide +kernel
theorem dX6_type_23 : decode cX6_type 23 = .ok (.if_icmp .lt 6, 3) := by decide +kernel
theorem dX6_type_26 : decode cX6_type 26 = .ok (.ldc 48, 2) := by decide +kernel
theorem dX6_type_28 : decode cX6_type 28 = .ok (.ireturn, 1) := by decide +kernel
theorem dX6_type_29 : decode cX6_type 29 = .ok (.aload_n 0, 1) := by decide +kernel
theorem dX6_type_30 : decode cX6_type 30 = .ok (.getfield 29, 3) := by decide +kernel
theorem dX6_type_33 : decode cX6_type 33 = .ok (.iload_n 1, 1) := by decide +kernel
theorem dX6_type_34 : decode cX6_type 34 = .ok (.invokevirtual 184, 3) := by decide +kernel
theorem dX6_type_37 : decode cX6_type 37 = .ok (.aload_n 0, 1) := by decide +kernel
theorem dX6_type_38 : decode cX6_type 38 = .ok (.getfield 29, 3) := by decide +kernel
theorem dX6_type_41 : decode cX6_type 41 = .ok (.invokevirtual 128, 3) := by decide +kernel
theorem dX6_type_44 : decode cX6_type 44 = .ok (.ireturn, 1) := by decide +kernel
theorem dX6_clearText_0 : decode cX6_clearText 0 = .ok (.aload_n 0, 1) := by decide +kernel
theorem dX6_clearText_1 : decode cX6_clearText 1 = .ok (.getfield 29, 3) := by decide +kernel
theorem dX6_clearText_4 : decode cX6_clearText 4 = .ok (.invokevirtual 128, 3) := by decide +kernel
theorem dX6_clearText_7 : decode cX6_clearText 7 = .ok (.istore_n 1, 1) := by decide +kernel
theorem dX6_clearText_8 : decode cX6_clearText 8 = .ok (.aload_n 0, 1) := by decide +kernel
theorem dX6_clearText_9 : decode cX6_clearText 9 = .ok (.getfield 29, 3) := by decide +kernel
theorem dX6_clearText_12 : decode cX6_clearText 12 = .ok (.invokevirtual 186, 3) := by decide +kernel
theorem dX6_clearText_15 : decode cX6_clearText 15 = .ok (.iload_n 1, 1) := by decide +kernel
theorem dX6_clearText_16 : decode cX6_clearText 16 = .ok (.ireturn, 1) := by decide +kernel
theorem dX6_fault_0 : decode cX6_fault 0 = .ok (.iload_n 1, 1) := by decide +kernel
theorem dX6_fault_1 : decode cX6_fault 1 = .ok (.iconst 0, 1) := by decide +kernel
theorem dX6_fault_2 : decode cX6_fault 2 = .ok (.iconst 1, 1) := by decide +kernel
theorem dX6_fault_3 : decode cX6_fault 3 = .ok (.invokestatic 33, 3) := by decide +kernel
theorem dX6_fault_6 : decode cX6_fault 6 = .ok (.ifCond .ne 6, 3) := by decide +kernel
theorem dX6_fault_9 : decode cX6_fault 9 = .ok (.ldc 37, 2) := by decide +kernel
theorem dX6_fault_11 : decode cX6_fault 11 = .ok (.ireturn, 1) := by decide +kernel
theorem dX6_fault_12 : decode cX6_fault 12 = .ok (.aload_n 0, 1) := by decide +kernel
theorem dX6_fault_13 : decode cX6_fault 13 = .ok (.invokevirtual 189, 3) := by decide +kernel
theorem dX6_fault_16 : decode cX6_fault 16 = .ok (.aload_n 0, 1) := by decide +kernel
theorem dX6_fault_17 : decode cX6_fault 17 = .ok (.getfield 29, 3) := by decide +kernel
theorem dX6_fault_20 : decode cX6_fault 20 = .ok (.invokevirtual 192, 3) := by decide +kernel
theorem dX6_fault_23 : decode cX6_fault 23 = .ok (.ifCond .ne 6, 3) := by decide +kernel
theorem dX6_fault_26 : decode cX6_fault 26 = .ok (.ldc 168, 2) := by decide +kernel
theorem dX6_fault_28 : decode cX6_fault 28 = .ok (.ireturn, 1) := by decide +kernel
theorem dX6_fault_29 : decode cX6_fault 29 = .ok (.iload_n 1, 1) := by decide +kernel
theorem dX6_fault_30 : decode cX6_fault 30 = .ok (.ifCond .ne 13, 3) := by decide +kernel
theorem dX6_fault_33 : decode cX6_fault 33 = .ok (.aload_n 0, 1) := by decide +kernel
theorem dX6_fault_34 : decode cX6_fault 34 = .ok (.getfield 29, 3) := by decide +kernel
theorem dX6_fault_37 : decode cX6_fault 37 = .ok (.invokevirtual 195, 3) := by decide +kernel
theorem dX6_fault_40 : decode cX6_fault 40 = .ok (.goto 10, 3) := by decide +kernel
theorem dX6_fault_43 : decode cX6_fault 43 = .ok (.aload_n 0, 1) := by decide +kernel
theorem dX6_fault_44 : decode cX6_fault 44 = .ok (.getfield 29, 3) := by decide +kernel
theorem dX6_fault_47 : decode cX6_fault 47 = .ok (.invokevirtual 192, 3) := by decide +kernel
theorem dX6_fault_50 : decode cX6_fault 50 = .ok (.ireturn, 1) := by decide +kernel
theorem dX6_enter_0 : decode cX6_enter 0 = .ok (.aload_n 0, 1) := by decide +kernel
theorem dX6_enter_1 : decode cX6_enter 1 = .ok (.invokevirtual 189, 3) := by decide +kernel
theorem dX6_enter_4 : decode cX6_enter 4 = .ok (.aload_n 0, 1) := by decide +kernel
theorem dX6_enter_5 : decode cX6_enter 5 = .ok (.getfield 29, 3) := by decide +kernel
theorem dX6_enter_8 : decode cX6_enter 8 = .ok (.invokevirtual 192, 3) := by decide +kernel
theorem dX6_enter_11 : decode cX6_enter 11 = .ok (.ifCond .eq 6, 3) := by decide +kernel
theorem dX6_enter_14 : decode cX6_enter 14 = .ok (.ldc 72, 2) := by decide +kernel
theorem dX6_enter_16 : decode cX6_enter 16 = .ok (.ireturn, 1) := by decide +kernel
theorem dX6_enter_17 : decode cX6_enter 17 = .ok (.aload_n 0, 1) := by decide +kernel
theorem dX6_enter_18 : decode cX6_enter 18 = .ok (.getfield 22, 3) := by decide +kernel
theorem dX6_enter_21 : decode cX6_enter 21 = .ok (.aload_n 0, 1) := by decide +kernel
theorem dX6_enter_22 : decode cX6_enter 22 = .ok (.getfield 10, 3) := by decide +kernel
theorem dX6_enter_25 : decode cX6_enter 25 = .ok (.invokevirtual 49, 3) := by decide +kernel
theorem dX6_enter_28 : decode cX6_enter 28 = .ok (.aload_n 0, 1) := by decide +kernel
theorem dX6_enter_29 : decode cX6_enter 29 = .ok (.getfield 10, 3) := by decide +kernel
theorem dX6_enter_32 : decode cX6_enter 32 = .ok (.aload_n 0, 1) := by decide +kernel
theorem dX6_enter_33 : decode cX6_enter 33 = .ok (.getfield 16, 3) := by decide +kernel
theorem dX6_enter_36 : decode cX6_enter 36 = .ok (.invokevirtual 198, 3) := by decide +kernel
theorem dX6_enter_39 : decode cX6_enter 39 = .ok (.aload_n 0, 1) := by decide +kernel
theorem dX6_enter_40 : decode cX6_enter 40 = .ok (.getfield 29, 3) := by decide +kernel
theorem dX6_enter_43 : decode cX6_enter 43 = .ok (.invokevirtual 201, 3) := by decide +kernel
theorem dX6_enter_46 : decode cX6_enter 46 = .ok (.ireturn, 1) := by decide +kernel
theorem dX6_isWithin_0 : decode cX6_isWithin 0 = .ok (.iload_n 0, 1) := by decide +kernel
theorem dX6_isWithin_1 : decode cX6_isWithin 1 = .ok (.iload_n 1, 1) := by decide +kernel
theorem dX6_isWithin_2 : decode cX6_isWithin 2 = .ok (.if_icmp .lt 12, 3) := by decide +kernel
theorem dX6_isWithin_5 : decode cX6_isWithin 5 = .ok (.iload_n 0, 1) := by decide +kernel
theorem dX6_isWithin_6 : decode cX6_isWithin 6 = .ok (.iload_n 2, 1) := by decide +kernel
theorem dX6_isWithin_7 : decode cX6_isWithin 7 = .ok (.if_icmp .gt 7, 3) := by decide +kernel
theorem dX6_isWithin_10 : decode cX6_isWithin 10 = .ok (.iconst 1, 1) := by decide +kernel
theorem dX6_isWithin_11 : decode cX6_isWithin 11 = .ok (.goto 4, 3) := by decide +kernel
theorem dX6_isWithin_14 : decode cX6_isWithin 14 = .ok (.iconst 0, 1) := by decide +kernel
theorem dX6_isWithin_15 : decode cX6_isWithin 15 = .ok (.ireturn, 1) := by decide +kernel
theorem dX6_isSetting_0 : decode cX6_isSetting 0 = .ok (.iload_n 0, 1) := by decide +kernel
theorem dX6_isSetting_1 : decode cX6_isSetting 1 = .ok (.tableswitch 65 0 3 #[31, 40, 49, 58], 31) := by decide +kernel
theorem dX6_isSetting_32 : decode cX6_isSetting 32 = .ok (.iload_n 1, 1) := by decide +kernel
theorem dX6_isSetting_33 : decode cX6_isSetting 33 = .ok (.iconst 1, 1) := by decide +kernel
theorem dX6_isSetting_34 : decode cX6_isSetting 34 = .ok (.sipush 600, 3) := by decide +kernel
theorem dX6_isSetting_37 : decode cX6_isSetting 37 = .ok (.invokestatic 33, 3) := by decide +kernel
theorem dX6_isSetting_40 : decode cX6_isSetting 40 = .ok (.ireturn, 1) := by decide +kernel
theorem dX6_isSetting_41 : decode cX6_isSetting 41 = .ok (.iload_n 1, 1) := by decide +kernel
theorem dX6_isSetting_42 : decode cX6_isSetting 42 = .ok (.iconst 1, 1) := by decide +kernel
theorem dX6_isSetting_43 : decode cX6_isSetting 43 = .ok (.sipush 600, 3) := by decide +kernel
theorem dX6_isSetting_46 : decode cX6_isSetting 46 = .ok (.invokestatic 33, 3) := by decide +kernel
theorem dX6_isSetting_49 : decode cX6_isSetting 49 = .ok (.ireturn, 1) := by decide +kernel
theorem dX6_isSetting_50 : decode cX6_isSetting 50 = .ok (.iload_n 1, 1) := by decide +kernel
theorem dX6_isSetting_51 : decode cX6_isSetting 51 = .ok (.iconst 0, 1) := by decide +kernel
theorem dX6_isSetting_52 : decode cX6_isSetting 52 = .ok (.sipush 600, 3) := by decide +kernel
theorem dX6_isSetting_55 : decode cX6_isSetting 55 = .ok (.invokestatic 33, 3) := by decide +kernel
theorem dX6_isSetting_58 : decode cX6_isSetting 58 = .ok (.ireturn, 1) := by decide +kernel
theorem dX6_isSetting_59 : decode cX6_isSetting 59 = .ok (.iload_n 1, 1) := by decide +kernel
theorem dX6_isSetting_60 : decode cX6_isSetting 60 = .ok (.iconst 0, 1) := by decide +kernel
theorem dX6_isSetting_61 : decode cX6_isSetting 61 = .ok (.iconst 1, 1) := by decide +kernel
theorem dX6_isSetting_62 : decode cX6_isSetting 62 = .ok (.invokestatic 33, 3) := by decide +kernel
theorem dX6_isSetting_65 : decode cX6_isSetting 65 = .ok (.ireturn, 1) := by decide +kernel
theorem dX6_isSetting_66 : decode cX6_isSetting 66 = .ok (.iconst 0, 1) := by decide +kernel
theorem dX6_isSetting_67 : decode cX6_isSetting 67 = .ok (.ireturn, 1) := by decide +kernel
theorem dX6_orNotFound_0 : decode cX6_orNotFound 0 = .ok (.iload_n 0, 1) := by decide +kernel
theorem dX6_orNotFound_1 : decode cX6_orNotFound 1 = .ok (.iconst (-1), 1) := by decide +kernel
theorem dX6_orNotFound_2 : decode cX6_orNotFound 2 = .ok (.if_icmp .ne 8, 3) := by decide +kernel
theorem dX6_orNotFound_5 : decode cX6_orNotFound 5 = .ok (.ldc 168, 2) := by decide +kernel
theorem dX6_orNotFound_7 : decode cX6_orNotFound 7 = .ok (.goto 4, 3) := by decide +kernel
theorem dX6_orNotFound_10 : decode cX6_orNotFound 10 = .ok (.iload_n 0, 1) := by decide +kernel
theorem dX6_orNotFound_11 : decode cX6_orNotFound 11 = .ok (.ireturn, 1) := by decide +kernel
theorem dX6_oneIf_0 : decode cX6_oneIf 0 = .ok (.iload_n 0, 1) := by decide +kernel
theorem dX6_oneIf_1 : decode cX6_oneIf 1 = .ok (.ifCond .eq 7, 3) := by decide +kernel
theorem dX6_oneIf_4 : decode cX6_oneIf 4 = .ok (.iconst 1, 1) := by decide +kernel
theorem dX6_oneIf_5 : decode cX6_oneIf 5 = .ok (.goto 4, 3) := by decide +kernel
theorem dX6_oneIf_8 : decode cX6_oneIf 8 = .ok (.iconst 0, 1) := by decide +kernel
theorem dX6_oneIf_9 : decode cX6_oneIf 9 = .ok (.ireturn, 1) := by decide +kernel
theorem dX6_tryOut_0 : decode cX6_tryOut 0 = .ok (.aload_n 0, 1) := by decide +kernel
theorem dX6_tryOut_1 : decode cX6_tryOut 1 = .ok (.getfield 16, 3) := by decide +kernel
theorem dX6_tryOut_4 : decode cX6_tryOut 4 = .ok (.aload_n 0, 1) := by decide +kernel
theorem dX6_tryOut_5 : decode cX6_tryOut 5 = .ok (.getfield 10, 3) := by decide +kernel
theorem dX6_tryOut_8 : decode cX6_tryOut 8 = .ok (.invokevirtual 198, 3) := by decide +kernel
theorem dX6_tryOut_11 : decode cX6_tryOut 11 = .ok (.aload_n 0, 1) := by decide +kernel
theorem dX6_tryOut_12 : decode cX6_tryOut 12 = .ok (.getfield 16, 3) := by decide +kernel
theorem dX6_tryOut_15 : decode cX6_tryOut 15 = .ok (.iload_n 1, 1) := by decide +kernel
theorem dX6_tryOut_16 : decode cX6_tryOut 16 = .ok (.invokevirtual 156, 3) := by decide +kernel
theorem dX6_tryOut_19 : decode cX6_tryOut 19 = .ok (.pop, 1) := by decide +kernel
theorem dX6_tryOut_20 : decode cX6_tryOut 20 = .ok (.return_, 1) := by decide +kernel
theorem dX6_tryText_0 : decode cX6_tryText 0 = .ok (.aload_n 0, 1) := by decide +kernel
theorem dX6_tryText_1 : decode cX6_tryText 1 = .ok (.getfield 16, 3) := by decide +kernel
theorem dX6_tryText_4 : decode cX6_tryText 4 = .ok (.aload_n 0, 1) := by decide +kernel
theorem dX6_tryText_5 : decode cX6_tryText 5 = .ok (.getfield 10, 3) := by decide +kernel
theorem dX6_tryText_8 : decode cX6_tryText 8 = .ok (.invokevirtual 198, 3) := by decide +kernel
theorem dX6_tryText_11 : decode cX6_tryText 11 = .ok (.aload_n 0, 1) := by decide +kernel
theorem dX6_tryText_12 : decode cX6_tryText 12 = .ok (.getfield 29, 3) := by decide +kernel
theorem dX6_tryText_15 : decode cX6_tryText 15 = .ok (.aload_n 0, 1) := by decide +kernel
theorem dX6_tryText_16 : decode cX6_tryText 16 = .ok (.getfield 16, 3) := by decide +kernel
theorem dX6_tryText_19 : decode cX6_tryText 19 = .ok (.getfield 111, 3) := by decide +kernel
theorem dX6_tryText_22 : decode cX6_tryText 22 = .ok (.invokevirtual 204, 3) := by decide +kernel
theorem dX6_tryText_25 : decode cX6_tryText 25 = .ok (.return_, 1) := by decide +kernel
