theorem dX7_init_0 : decode cX7_init 0 = .ok (.aload_n 0, 1) := by decide +kernel
theorem dX7_init_1 : decode cX7_init 1 = .ok (.invokespecial 1, 3) := by decide +kernel
theorem dX7_init_4 : decode cX7_init 4 = .ok (.aload_n 0, 1) := by decide +kernel
theorem dX7_init_5 : decode cX7_init 5 = .ok (.sipush 301, 3) := by decide +kernel
theorem dX7_init_8 : decode cX7_init 8 = .ok (.newarray .int, 2) := by decide +kernel
theorem dX7_init_10 : decode cX7_init 10 = .ok (.putfield 7, 3) := by decide +kernel
theorem dX7_init_13 : decode cX7_init 13 = .ok (.aload_n 0, 1) := by decide +kernel
theorem dX7_init_14 : decode cX7_init 14 = .ok (.sipush 1505, 3) := by decide +kernel
theorem dX7_init_17 : decode cX7_init 17 = .ok (.newarray .int, 2) := by decide +kernel
theorem dX7_init_19 : decode cX7_init 19 = .ok (.putfield 13, 3) := by decide +kernel
theorem dX7_init_22 : decode cX7_init 22 = .ok (.aload_n 0, 1) := by decide +kernel
theorem dX7_init_23 : decode cX7_init 23 = .ok (.sipush 301, 3) := by decide +kernel
theorem dX7_init_26 : decode cX7_init 26 = .ok (.newarray .int, 2) := by decide +kernel
theorem dX7_init_28 : decode cX7_init 28 = .ok (.putfield 16, 3) := by decide +kernel
theorem dX7_init_31 : decode cX7_init 31 = .ok (.aload_n 0, 1) := by decide +kernel
theorem dX7_init_32 : decode cX7_init 32 = .ok (.bipush 100, 2) := by decide +kernel
theorem dX7_init_34 : decode cX7_init 34 = .ok (.newarray .int, 2) := by decide +kernel
theorem dX7_init_36 : decode cX7_init 36 = .ok (.putfield 19, 3) := by decide +kernel
theorem dX7_init_39 : decode cX7_init 39 = .ok (.aload_n 0, 1) := by decide +kernel
theorem dX7_init_40 : decode cX7_init 40 = .ok (.bipush 25, 2) := by decide +kernel
theorem dX7_init_42 : decode cX7_init 42 = .ok (.newarray .int, 2) := by decide +kernel
theorem dX7_init_44 : decode cX7_init 44 = .ok (.putfield 22, 3) := by decide +kernel
theorem dX7_init_47 : decode cX7_init 47 = .ok (.aload_n 0, 1) := by decide +kernel
theorem dX7_init_48 : decode cX7_init 48 = .ok (.getfield 7, 3) := by decide +kernel
theorem dX7_init_51 : decode cX7_init 51 = .ok (.bipush 7, 2) := by decide +kernel
theorem dX7_init_53 : decode cX7_init 53 = .ok (.bipush 60, 2) := by decide +kernel
theorem dX7_init_55 : decode cX7_init 55 = .ok (.iastore, 1) := by decide +kernel
theorem dX7_init_56 : decode cX7_init 56 = .ok (.aload_n 0, 1) := by decide +kernel
theorem dX7_init_57 : decode cX7_init 57 = .ok (.getfield 7, 3) := by decide +kernel
theorem dX7_init_60 : decode cX7_init 60 = .ok (.bipush 8, 2) := by decide +kernel
theorem dX7_init_62 : decode cX7_init 62 = .ok (.bipush 10, 2) := by decide +kernel
theorem dX7_init_64 : decode cX7_init 64 = .ok (.iastore, 1) := by decide +kernel
theorem dX7_init_65 : decode cX7_init 65 = .ok (.aload_n 0, 1) := by decide +kernel
theorem dX7_init_66 : decode cX7_init 66 = .ok (.getfield 7, 3) := by decide +kernel
theorem dX7_init_69 : decode cX7_init 69 = .ok (.bipush 9, 2) := by decide +kernel
theorem dX7_init_71 : decode cX7_init 71 = .ok (.bipush 10, 2) := by decide +kernel
theorem dX7_init_73 : decode cX7_init 73 = .ok (.iastore, 1) := by decide +kernel
theorem dX7_init_74 : decode cX7_init 74 = .ok (.return_, 1) := by decide +kernel
theorem dX7_in_0 : decode cX7_in 0 = .ok (.iload_n 0, 1) := by decide +kernel
theorem dX7_in_1 : decode cX7_in 1 = .ok (.iload_n 1, 1) := by decide +kernel
theorem dX7_in_2 : decode cX7_in 2 = .ok (.if_icmp .lt 12, 3) := by decide +kernel
theorem dX7_in_5 : decode cX7_in 5 = .ok (.iload_n 0, 1) := by decide +kernel
theorem dX7_in_6 : decode cX7_in 6 = .ok (.iload_n 2, 1) := by decide +kernel
theorem dX7_in_7 : decode cX7_in 7 = .ok (.if_icmp .gt 7, 3) := by decide +kernel
theorem dX7_in_10 : decode cX7_in 10 = .ok (.iconst 1, 1) := by decide +kernel
theorem dX7_in_11 : decode cX7_in 11 = .ok (.goto 4, 3) := by decide +kernel
theorem dX7_in_14 : decode cX7_in 14 = .ok (.iconst 0, 1) := by decide +kernel
theorem dX7_in_15 : decode cX7_in 15 = .ok (.ireturn, 1) := by decide +kernel
theorem dX7_size_0 : decode cX7_size 0 = .ok (.iload_n 0, 1) := by decide +kernel
theorem dX7_size_1 : decode cX7_size 1 = .ok (.ifCond .ge 8, 3) := by decide +kernel
theorem dX7_size_4 : decode cX7_size 4 = .ok (.iload_n 0, 1) := by decide +kernel
theorem dX7_size_5 : decode cX7_size 5 = .ok (.ineg, 1) := by decide +kernel
theorem dX7_size_6 : decode cX7_size 6 = .ok (.goto 4, 3) := by decide +kernel
theorem dX7_size_9 : decode cX7_size 9 = .ok (.iload_n 0, 1) := by decide +kernel
theorem dX7_size_10 : decode cX7_size 10 = .ok (.ireturn, 1) := by decide +kernel
theorem dX7_of_0 : decode cX7_of 0 = .ok (.aload_n 0, 1) := by decide +kernel
theorem dX7_of_1 : decode cX7_of 1 = .ok (.getfield 7, 3) := by decide +kernel
theorem dX7_of_4 : decode cX7_of 4 = .ok (.bipush 11, 2) := by decide +kernel
theorem dX7_of_6 : decode cX7_of 6 = .ok (.iconst 5, 1) := by decide +kernel
theorem dX7_of_7 : decode cX7_of 7 = .ok (.iload_n 1, 1) := by decide +kernel
theorem dX7_of_8 : decode cX7_of 8 = .ok (.imul, 1) := by decide +kernel
theorem dX7_of_9 : decode cX7_of 9 = .ok (.iadd, 1) := by decide +kernel
theorem dX7_of_10 : decode cX7_of 10 = .ok (.iload_n 2, 1) := by decide +kernel
theorem dX7_of_11 : decode cX7_of 11 = .ok (.iadd, 1) := by decide +kernel
theorem dX7_of_12 : decode cX7_of 12 = .ok (.iaload, 1) := by decide +kernel
theorem dX7_of_13 : decode cX7_of 13 = .ok (.ireturn, 1) := by decide +kernel
theorem dX7_put_0 : decode cX7_put 0 = .ok (.aload_n 0, 1) := by decide +kernel
theorem dX7_put_1 : decode cX7_put 1 = .ok (.getfield 7, 3) := by decide +kernel
theorem dX7_put_4 : decode cX7_put 4 = .ok (.bipush 11, 2) := by decide +kernel
theorem dX7_put_6 : decode cX7_put 6 = .ok (.iconst 5, 1) := by decide +kernel
theorem dX7_put_7 : decode cX7_put 7 = .ok (.iload_n 1, 1) := by decide +kernel
theorem dX7_put_8 : decode cX7_put 8 = .ok (.imul, 1) := by decide +kernel
theorem dX7_put_9 : decode cX7_put 9 = .ok (.iadd, 1) := by decide +kernel
theorem dX7_put_10 : decode cX7_put 10 = .ok (.iload_n 2, 1) := by decide +kernel
theorem dX7_put_11 : decode cX7_put 11 = .ok (.iadd, 1) := by decide +kernel
theorem dX7_put_12 : decode cX7_put 12 = .ok (.iload_n 3, 1) := by decide +kernel
theorem dX7_put_13 : decode cX7_put 13 = .ok (.iastore, 1) := by decide +kernel
theorem dX7_put_14 : decode cX7_put 14 = .ok (.return_, 1) := by decide +kernel
theorem dX7_has_0 : decode cX7_has 0 = .ok (.aload_n 0, 1) := by decide +kernel
theorem dX7_has_1 : decode cX7_has 1 = .ok (.getfield 7, 3) := by decide +kernel
theorem dX7_has_4 : decode cX7_has 4 = .ok (.bipush 61, 2) := by decide +kernel
theorem dX7_has_6 : decode cX7_has 6 = .ok (.bipush 6, 2) := by decide +kernel
theorem dX7_has_8 : decode cX7_has 8 = .ok (.iload_n 1, 1) := by decide +kernel
theorem dX7_has_9 : decode cX7_has 9 = .ok (.imul, 1) := by decide +kernel
theorem dX7_has_10 : decode cX7_has 10 = .ok (.iadd, 1) := by decide +kernel
theorem dX7_has_11 : decode cX7_has 11 = .ok (.iload_n 2, 1) := by decide +kernel
theorem dX7_has_12 : decode cX7_has 12 = .ok (.iadd, 1) := by decide +kernel
theorem dX7_has_13 : decode cX7_has 13 = .ok (.iaload, 1) := by decide +kernel
theorem dX7_has_14 : decode cX7_has 14 = .ok (.ireturn, 1) := by decide +kernel
theorem dX7_lay_0 : decode cX7_lay 0 = .ok (.aload_n 0, 1) := by decide +kernel
theorem dX7_lay_1 : decode cX7_lay 1 = .ok (.getfield 7, 3) := by decide +kernel
theorem dX7_lay_4 : decode cX7_lay 4 = .ok (.bipush 61, 2) := by decide +kernel
theorem dX7_lay_6 : decode cX7_lay 6 = .ok (.bipush 6, 2) := by decide +kernel
theorem dX7_lay_8 : decode cX7_lay 8 = .ok (.iload_n 1, 1) := by decide +kernel
theorem dX7_lay_9 : decode cX7_lay 9 = .ok (.imul, 1) := by decide +kernel
theorem dX7_lay_10 : decode cX7_lay 10 = .ok (.iadd, 1) := by decide +kernel
theorem dX7_lay_11 : decode cX7_lay 11 = .ok (.iload_n 2, 1) := by decide +kernel
theorem dX7_lay_12 : decode cX7_lay 12 = .ok (.iadd, 1) := by decide +kernel
theorem dX7_lay_13 : decode cX7_lay 13 = .ok (.iload_n 3, 1) := by decide +kernel
theorem dX7_lay_14 : decode cX7_lay 14 = .ok (.iastore, 1) := by decide +kernel
theorem dX7_lay_15 : decode cX7_lay 15 = .ok (.return_, 1) := by decide +kernel
theorem dX7_setting_0 : decode cX7_setting 0 = .ok (.aload_n 0, 1) := by decide +kernel
theorem dX7_setting_1 : decode cX7_setting 1 = .ok (.getfield 7, 3) := by decide +kernel
theorem dX7_setting_4 : decode cX7_setting 4 = .ok (.bipush 7, 2) := by decide +kernel
theorem dX7_setting_6 : decode cX7_setting 6 = .ok (.iload_n 1, 1) := by decide +kernel
theorem dX7_setting_7 : decode cX7_setting 7 = .ok (.iadd, 1) := by decide +kernel
theorem dX7_setting_8 : decode cX7_setting 8 = .ok (.iaload, 1) := by decide +kernel
theorem dX7_setting_9 : decode cX7_setting 9 = .ok (.ireturn, 1) := by decide +kernel
theorem dX7_isBowl_0 : decode cX7_isBowl 0 = .ok (.iload_n 1, 1) := by decide +kernel
theorem dX7_isBowl_1 : decode cX7_isBowl 1 = .ok (.iconst 0, 1) := by decide +kernel
theorem dX7_isBowl_2 : decode cX7_isBowl 2 = .ok (.aload_n 0, 1) := by decide +kernel
theorem dX7_isBowl_3 : decode cX7_isBowl 3 = .ok (.getfield 7, 3) := by decide +kernel
theorem dX7_isBowl_6 : decode cX7_isBowl 6 = .ok (.iconst 1, 1) := by decide +kernel
theorem dX7_isBowl_7 : decode cX7_isBowl 7 = .ok (.iaload, 1) := by decide +kernel
theorem dX7_isBowl_8 : decode cX7_isBowl 8 = .ok (.iconst 1, 1) := by decide +kernel
theorem dX7_isBowl_9 : decode cX7_isBowl 9 = .ok (.isub, 1) := by decide +kernel
theorem dX7_isBowl_10 : decode cX7_isBowl 10 = .ok (.invokestatic 25, 3) := by decide +kernel
theorem dX7_isBowl_13 : decode cX7_isBowl 13 = .ok (.ireturn, 1) := by decide +kernel
theorem dX7_isNote_0 : decode cX7_isNote 0 = .ok (.iload_n 1, 1) := by decide +kernel
theorem dX7_isNote_1 : decode cX7_isNote 1 = .ok (.iconst 0, 1) := by decide +kernel
theorem dX7_isNote_2 : decode cX7_isNote 2 = .ok (.aload_n 0, 1) := by decide +kernel
theorem dX7_isNote_3 : decode cX7_isNote 3 = .ok (.getfield 7, 3) := by decide +kernel
theorem dX7_isNote_6 : decode cX7_isNote 6 = .ok (.iconst 2, 1) := by decide +kernel
theorem dX7_isNote_7 : decode cX7_isNote 7 = .ok (.iaload, 1) := by decide +kernel
theorem dX7_isNote_8 : decode cX7_isNote 8 = .ok (.iconst 1, 1) := by decide +kernel
theorem dX7_isNote_9 : decode cX7_isNote 9 = .ok (.isub, 1) := by decide +kernel
theorem dX7_isNote_10 : decode cX7_isNote 10 = .ok (.invokestatic 25, 3) := by decide +kernel
theorem dX7_isNote_13 : decode cX7_isNote 13 = .ok (.ireturn, 1) := by decide +kernel
theorem dX7_records_0 : decode cX7_records 0 = .ok (.aload_n 0, 1) := by decide +kernel
theorem dX7_records_1 : decode cX7_records 1 = .ok (.getfield 29, 3) := by decide +kernel
theorem dX7_records_4 : decode cX7_records 4 = .ok (.iconst 5, 1) := by decide +kernel
theorem dX7_records_5 : decode cX7_records 5 = .ok (.if_icmp .ne 44, 3) := by decide +kernel
theorem dX7_records_8 : decode cX7_records 8 = .ok (.iconst 0, 1) := by decide +kernel
theorem dX7_records_9 : decode cX7_records 9 = .ok (.istore_n 1, 1) := by decide +kernel
theorem dX7_records_10 : decode cX7_records 10 = .ok (.iload_n 1, 1) := by decide +kernel
theorem dX7_records_11 : decode cX7_records 11 = .ok (.sipush 1204, 3) := by decide +kernel
theorem dX7_records_14 : decode cX7_records 14 = .ok (.if_icmp .ge 25, 3) := by decide +kernel
theorem dX7_records_17 : decode cX7_records 17 = .ok (.aload_n 0, 1) := by decide +kernel
theorem dX7_records_18 : decode cX7_records 18 = .ok (.getfield 13, 3) := by decide +kernel
theorem dX7_records_21 : decode cX7_records 21 = .ok (.iload_n 1, 1) := by decide +kernel
theorem dX7_records_22 : decode cX7_records 22 = .ok (.aload_n 0, 1) := by decide +kernel
theorem dX7_records_23 : decode cX7_records 23 = .ok (.getfield 13, 3) := by decide +kernel
theorem dX7_records_26 : decode cX7_records 26 = .ok (.iload_n 1, 1) := by decide +kernel
theorem dX7_records_27 : decode cX7_records 27 = .ok (.sipush 301, 3) := by decide +kernel
theorem dX7_records_30 : decode cX7_records 30 = .ok (.iadd, 1) := by decide +kernel
theorem dX7_records_31 : decode cX7_records 31 = .ok (.iaload, 1) := by decide +kernel
theorem dX7_records_32 : decode cX7_records 32 = .ok (.iastore, 1) := by decide +kernel
theorem dX7_records_33 : decode cX7_records 33 = .ok (.iinc 1 1, 3) := by decide +kernel
theorem dX7_records_36 : decode cX7_records 36 = .ok (.goto (-26), 3) := by decide +kernel
theorem dX7_records_39 : decode cX7_records 39 = .ok (.aload_n 0, 1) := by decide +kernel
theorem dX7_records_40 : decode cX7_records 40 = .ok (.dup, 1) := by decide +kernel
theorem dX7_records_41 : decode cX7_records 41 = .ok (.getfield 29, 3) := by decide +kernel
theorem dX7_records_44 : decode cX7_records 44 = .ok (.iconst 1, 1) := by decide +kernel
theorem dX7_records_45 : decode cX7_records 45 = .ok (.isub, 1) := by decide +kernel
theorem dX7_records_46 : decode cX7_records 46 = .ok (.putfield 29, 3) := by decide +kernel
theorem dX7_records_49 : decode cX7_records 49 = .ok (.iconst 0, 1) := by decide +kernel
theorem dX7_records_50 : decode cX7_records 50 = .ok (.istore_n 1, 1) := by decide +kernel
theorem dX7_records_51 : decode cX7_records 51 = .ok (.iload_n 1, 1) := by decide +kernel
theorem dX7_records_52 : decode cX7_records 52 = .ok (.sipush 301, 3) := by decide +kernel
theorem dX7_records_55 : decode cX7_records 55 = .ok (.if_icmp .ge 30, 3) := by decide +kernel
theorem dX7_records_58 : decode cX7_records 58 = .ok (.aload_n 0, 1) := by decide +kernel
theorem dX7_records_59 : decode cX7_records 59 = .ok (.getfield 13, 3) := by decide +kernel
theorem dX7_records_62 : decode cX7_records 62 = .ok (.sipush 301, 3) := by decide +kernel
theorem dX7_records_65 : decode cX7_records 65 = .ok (.aload_n 0, 1) := by decide +kernel
theorem dX7_records_66 : decode cX7_records 66 = .ok (.getfield 29, 3) := by decide +kernel
theorem dX7_records_69 : decode cX7_records 69 = .ok (.imul, 1) := by decide +kernel
theorem dX7_records_70 : decode cX7_records 70 = .ok (.iload_n 1, 1) := by decide +kernel
theorem dX7_records_71 : decode cX7_records 71 = .ok (.iadd, 1) := by decide +kernel
theorem dX7_records_72 : decode cX7_records 72 = .ok (.aload_n 0, 1) := by decide +kernel
theorem dX7_records_73 : decode cX7_records 73 = .ok (.getfield 7, 3) := by decide +kernel
theorem dX7_records_76 : decode cX7_records 76 = .ok (.iload_n 1, 1) := by decide +kernel
theorem dX7_records_77 : decode cX7_records 77 = .ok (.iaload, 1) := by decide +kernel
theorem dX7_records_78 : decode cX7_records 78 = .ok (.iastore, 1) := by decide +kernel
theorem dX7_records_79 : decode cX7_records 79 = .ok (.iinc 1 1, 3) := by decide +kernel
theorem dX7_records_82 : decode cX7_records 82 = .ok (.goto (-31), 3) := by decide +kernel
theorem dX7_records_85 : decode cX7_records 85 = .ok (.aload_n 0, 1) := by decide +kernel
theorem dX7_records_86 : decode cX7_records 86 = .ok (.dup, 1) := by decide +kernel
theorem dX7_records_87 : decode cX7_records 87 = .ok (.getfield 29, 3) := by decide +kernel
theorem dX7_records_90 : decode cX7_records 90 = .ok (.iconst 1, 1) := by decide +kernel
theorem dX7_records_91 : decode cX7_records 91 = .ok (.iadd, 1) := by decide +kernel
theorem dX7_records_92 : decode cX7_records 92 = .ok (.putfield 29, 3) := by decide +kernel
theorem dX7_records_95 : decode cX7_records 95 = .ok (.return_, 1) := by decide +kernel
theorem dX7_undo_0 : decode cX7_undo 0 = .ok (.aload_n 0, 1) := by decide +kernel
theorem dX7_undo_1 : decode cX7_undo 1 = .ok (.getfield 29, 3) := by decide +kernel
theorem dX7_undo_4 : decode cX7_undo 4 = .ok (.ifCond .ne 6, 3) := by decide +kernel
theorem dX7_undo_7 : decode cX7_undo 7 = .ok (.ldc 33, 2) := by decide +kernel
theorem dX7_undo_9 : decode cX7_undo 9 = .ok (.ireturn, 1) := by decide +kernel
theorem dX7_undo_10 : decode cX7_undo 10 = .ok (.aload_n 0, 1) := by decide +kernel
theorem dX7_undo_11 : decode cX7_undo 11 = .ok (.dup, 1) := by decide +kernel
theorem dX7_undo_12 : decode cX7_undo 12 = .ok (.getfield 29, 3) := by decide +kernel
theorem dX7_undo_15 : decode cX7_undo 15 = .ok (.iconst 1, 1) := by decide +kernel
theorem dX7_undo_16 : decode cX7_undo 16 = .ok (.isub, 1) := by decide +kernel
theorem dX7_undo_17 : decode cX7_undo 17 = .ok (.putfield 29, 3) := by decide +kernel
theorem dX7_undo_20 : decode cX7_undo 20 = .ok (.iconst 0, 1) := by decide +kernel
theorem dX7_undo_21 : decode cX7_undo 21 = .ok (.istore_n 1, 1) := by decide +kernel
theorem dX7_undo_22 : decode cX7_undo 22 = .ok (.iload_n 1, 1) := by decide +kernel
theorem dX7_undo_23 : decode cX7_undo 23 = .ok (.sipush 301, 3) := by decide +kernel
theorem dX7_undo_26 : decode cX7_undo 26 = .ok (.if_icmp .ge 30, 3) := by decide +kernel
theorem dX7_undo_29 : decode cX7_undo 29 = .ok (.aload_n 0, 1) := by decide +kernel
theorem dX7_undo_30 : decode cX7_undo 30 = .ok (.getfield 7, 3) := by decide +kernel
theorem dX7_undo_33 : decode cX7_undo 33 = .ok (.iload_n 1, 1) := by decide +kernel
theorem dX7_undo_34 : decode cX7_undo 34 = .ok (.aload_n 0, 1) := by decide +kernel
theorem dX7_undo_35 : decode cX7_undo 35 = .ok (.getfield 13, 3) := by decide +kernel
theorem dX7_undo_38 : decode cX7_undo 38 = .ok (.sipush 301, 3) := by decide +kernel
theorem dX7_undo_41 : decode cX7_undo 41 = .ok (.aload_n 0, 1) := by decide +kernel
theorem dX7_undo_42 : decode cX7_undo 42 = .ok (.getfield 29, 3) := by decide +kernel
theorem dX7_undo_45 : decode cX7_undo 45 = .ok (.imul, 1) := by decide +kernel
theorem dX7_undo_46 : decode cX7_undo 46 = .ok (.iload_n 1, 1) := by decide +kernel
theorem dX7_undo_47 : decode cX7_undo 47 = .ok (.iadd, 1) := by decide +kernel
theorem dX7_undo_48 : decode cX7_undo 48 = .ok (.iaload, 1) := by decide +kernel
theorem dX7_undo_49 : decode cX7_undo 49 = .ok (.iastore, 1) := by decide +kernel
theorem dX7_undo_50 : decode cX7_undo 50 = .ok (.iinc 1 1, 3) := by decide +kernel
theorem dX7_undo_53 : decode cX7_undo 53 = .ok (.goto (-31), 3) := by decide +kernel
theorem dX7_undo_56 : decode cX7_undo 56 = .ok (.aload_n 0, 1) := by decide +kernel
theorem dX7_undo_57 : decode cX7_undo 57 = .ok (.getfield 29, 3) := by decide +kernel
theorem dX7_undo_60 : decode cX7_undo 60 = .ok (.ireturn, 1) := by decide +kernel
theorem dX7_laysAside_0 : decode cX7_laysAside 0 = .ok (.iconst 0, 1) := by decide +kernel
theorem dX7_laysAside_1 : decode cX7_laysAside 1 = .ok (.istore_n 1, 1) := by decide +kernel
theorem dX7_laysAside_2 : decode cX7_laysAside 2 = .ok (.iload_n 1, 1) := by decide +kernel
theorem dX7_laysAside_3 : decode cX7_laysAside 3 = .ok (.sipush 301, 3) := by decide +kernel
theorem dX7_laysAside_6 : decode cX7_laysAside 6 = .ok (.if_icmp .ge 21, 3) := by decide +kernel
theorem dX7_laysAside_9 : decode cX7_laysAside 9 = .ok (.aload_n 0, 1) := by decide +kernel
theorem dX7_laysAside_10 : decode cX7_laysAside 10 = .ok (.getfield 16, 3) := by decide +kernel
theorem dX7_laysAside_13 : decode cX7_laysAside 13 = .ok (.iload_n 1, 1) := by decide +kernel
theorem dX7_laysAside_14 : decode cX7_laysAside 14 = .ok (.aload_n 0, 1) := by decide +kernel
theorem dX7_laysAside_15 : decode cX7_laysAside 15 = .ok (.getfield 7, 3) := by decide +kernel
theorem dX7_laysAside_18 : decode cX7_laysAside 18 = .ok (.iload_n 1, 1) := by decide +kernel
theorem dX7_laysAside_19 : decode cX7_laysAside 19 = .ok (.iaload, 1) := by decide +kernel
theorem dX7_laysAside_20 : decode cX7_laysAside 20 = .ok (.iastore, 1) := by decide +kernel
theorem dX7_laysAside_21 : decode cX7_laysAside 21 = .ok (.iinc 1 1, 3) := by decide +kernel
theorem dX7_laysAside_24 : decode cX7_laysAside 24 = .ok (.goto (-22), 3) := by decide +kernel
theorem dX7_laysAside_27 : decode cX7_laysAside 27 = .ok (.return_, 1) := by decide +kernel
theorem dX7_bringsBack_0 : decode cX7_bringsBack 0 = .ok (.iconst 0, 1) := by decide +kernel
theorem dX7_bringsBack_1 : decode cX7_bringsBack 1 = .ok (.istore_n 1, 1) := by decide +kernel
theorem dX7_bringsBack_2 : decode cX7_bringsBack 2 = .ok (.iload_n 1, 1) := by decide +kernel
theorem dX7_bringsBack_3 : decode cX7_bringsBack 3 = .ok (.sipush 301, 3) := by decide +kernel
theorem dX7_bringsBack_6 : decode cX7_bringsBack 6 = .ok (.if_icmp .ge 21, 3) := by decide +kernel
theorem dX7_bringsBack_9 : decode cX7_bringsBack 9 = .ok (.aload_n 0, 1) := by decide +kernel
theorem dX7_bringsBack_10 : decode cX7_bringsBack 10 = .ok (.getfield 7, 3) := by decide +kernel
theorem dX7_bringsBack_13 : decode cX7_bringsBack 13 = .ok (.iload_n 1, 1) := by decide +kernel
theorem dX7_bringsBack_14 : decode cX7_bringsBack 14 = .ok (.aload_n 0, 1) := by decide +kernel
theorem dX7_bringsBack_15 : decode cX7_bringsBack 15 = .ok (.getfield 16, 3) := by decide +kernel
theorem dX7_bringsBack_18 : decode cX7_bringsBack 18 = .ok (.iload_n 1, 1) := by decide +kernel
theorem dX7_bringsBack_19 : decode cX7_bringsBack 19 = .ok (.iaload, 1) := by decide +kernel
theorem dX7_bringsBack_20 : decode cX7_bringsBack 20 = .ok (.iastore, 1) := by decide +kernel
theorem dX7_bringsBack_21 : decode cX7_bringsBack 21 = .ok (.iinc 1 1, 3) := by decide +kernel
theorem dX7_bringsBack_24 : decode cX7_bringsBack 24 = .ok (.goto (-22), 3) := by decide +kernel
theorem dX7_bringsBack_27 : decode cX7_bringsBack 27 = .ok (.return_, 1) := by decide +kernel
theorem dX7_pitchBy_0 : decode cX7_pitchBy 0 = .ok (.aload_n 0, 1) := by decide +kernel
theorem dX7_pitchBy_1 : decode cX7_pitchBy 1 = .ok (.iload_n 1, 1) := by decide +kernel
theorem dX7_pitchBy_2 : decode cX7_pitchBy 2 = .ok (.iconst 0, 1) := by decide +kernel
theorem dX7_pitchBy_3 : decode cX7_pitchBy 3 = .ok (.invokevirtual 34, 3) := by decide +kernel
theorem dX7_pitchBy_6 : decode cX7_pitchBy 6 = .ok (.aload_n 0, 1) := by decide +kernel
theorem dX7_pitchBy_7 : decode cX7_pitchBy 7 = .ok (.iload_n 1, 1) := by decide +kernel
theorem dX7_pitchBy_8 : decode cX7_pitchBy 8 = .ok (.iconst 1, 1) := by decide +kernel
theorem dX7_pitchBy_9 : decode cX7_pitchBy 9 = .ok (.invokevirtual 34, 3) := by decide +kernel
theorem dX7_pitchBy_12 : decode cX7_pitchBy 12 = .ok (.i2l, 1) := by decide +kernel
theorem dX7_pitchBy_13 : decode cX7_pitchBy 13 = .ok (.iload_n 2, 1) := by decide +kernel
theorem dX7_pitchBy_14 : decode cX7_pitchBy 14 = .ok (.i2l, 1) := by decide +kernel
theorem dX7_pitchBy_15 : decode cX7_pitchBy 15 = .ok (.lmul, 1) := by decide +kernel
theorem dX7_pitchBy_16 : decode cX7_pitchBy 16 = .ok (.iload_n 2, 1) := by decide +kernel
theorem dX7_pitchBy_17 : decode cX7_pitchBy 17 = .ok (.i2l, 1) := by decide +kernel
theorem dX7_pitchBy_18 : decode cX7_pitchBy 18 = .ok (.lmul, 1) := by decide +kernel
theorem dX7_pitchBy_19 : decode cX7_pitchBy 19 = .ok (.ldc2_w 38, 3) := by decide +kernel
theorem dX7_pitchBy_22 : decode cX7_pitchBy 22 = .ok (.ldiv, 1) := by decide +kernel
theorem dX7_pitchBy_23 : decode cX7_pitchBy 23 = .ok (.l2i, 1) := by decide +kernel
theorem dX7_pitchBy_24 : decode cX7_pitchBy 24 = .ok (.isub, 1) := by decide +kernel
theorem dX7_pitchBy_25 : decode cX7_pitchBy 25 = .ok (.ireturn, 1) := by decide +kernel
theorem dX7_pitch_0 : decode cX7_pitch 0 = .ok (.aload_n 0, 1) := by decide +kernel
theorem dX7_pitch_1 : decode cX7_pitch 1 = .ok (.iload_n 1, 1) := by decide +kernel
theorem dX7_pitch_2 : decode cX7_pitch 2 = .ok (.aload_n 0, 1) := by decide +kernel
theorem dX7_pitch_3 : decode cX7_pitch 3 = .ok (.iload_n 1, 1) := by decide +kernel
theorem dX7_pitch_4 : decode cX7_pitch 4 = .ok (.iconst 2, 1) := by decide +kernel
theorem dX7_pitch_5 : decode cX7_pitch 5 = .ok (.invokevirtual 34, 3) := by decide +kernel
theorem dX7_pitch_8 : decode cX7_pitch 8 = .ok (.invokevirtual 40, 3) := by decide +kernel
theorem dX7_pitch_11 : decode cX7_pitch 11 = .ok (.ireturn, 1) := by decide +kernel
theorem dX7_loses_0 : decode cX7_loses 0 = .ok (.aload_n 0, 1) := by decide +kernel
theorem dX7_loses_1 : decode cX7_loses 1 = .ok (.iload_n 1, 1) := by decide +kernel
theorem dX7_loses_2 : decode cX7_loses 2 = .ok (.iconst 2, 1) := by decide +kernel
theorem dX7_loses_3 : decode cX7_loses 3 = .ok (.invokevirtual 34, 3) := by decide +kernel
theorem dX7_loses_6 : decode cX7_loses 6 = .ok (.aload_n 0, 1) := by decide +kernel
theorem dX7_loses_7 : decode cX7_loses 7 = .ok (.iload_n 1, 1) := by decide +kernel
theorem dX7_loses_8 : decode cX7_loses 8 = .ok (.iconst 4, 1) := by decide +kernel
theorem dX7_loses_9 : decode cX7_loses 9 = .ok (.invokevirtual 34, 3) := by decide +kernel
theorem dX7_loses_12 : decode cX7_loses 12 = .ok (.isub, 1) := by decide +kernel
theorem dX7_loses_13 : decode cX7_loses 13 = .ok (.istore_n 2, 1) := by decide +kernel
theorem dX7_loses_14 : decode cX7_loses 14 = .ok (.iload_n 2, 1) := by decide +kernel
theorem dX7_loses_15 : decode cX7_loses 15 = .ok (.ifCond .ge 7, 3) := by decide +kernel
theorem dX7_loses_18 : decode cX7_loses 18 = .ok (.iconst 0, 1) := by decide +kernel
theorem dX7_loses_19 : decode cX7_loses 19 = .ok (.goto 4, 3) := by decide +kernel
theorem dX7_loses_22 : decode cX7_loses 22 = .ok (.iload_n 2, 1) := by decide +kernel
theorem dX7_loses_23 : decode cX7_loses 23 = .ok (.istore_n 2, 1) := by decide +kernel
theorem dX7_loses_24 : decode cX7_loses 24 = .ok (.aload_n 0, 1) := by decide +kernel
theorem dX7_loses_25 : decode cX7_loses 25 = .ok (.iload_n 1, 1) := by decide +kernel
theorem dX7_loses_26 : decode cX7_loses 26 = .ok (.iconst 2, 1) := by decide +kernel
theorem dX7_loses_27 : decode cX7_loses 27 = .ok (.aload_n 0, 1) := by decide +kernel
theorem dX7_loses_28 : decode cX7_loses 28 = .ok (.iload_n 1, 1) := by decide +kernel
theorem dX7_loses_29 : decode cX7_loses 29 = .ok (.iconst 2, 1) := by decide +kernel
theorem dX7_loses_30 : decode cX7_loses 30 = .ok (.invokevirtual 34, 3) := by decide +kernel
theorem dX7_loses_33 : decode cX7_loses 33 = .ok (.iload_n 2, 1) := by decide +kernel
theorem dX7_loses_34 : decode cX7_loses 34 = .ok (.isub, 1) := by decide +kernel
theorem dX7_loses_35 : decode cX7_loses 35 = .ok (.invokevirtual 43, 3) := by decide +kernel
theorem dX7_loses_38 : decode cX7_loses 38 = .ok (.aload_n 0, 1) := by decide +kernel
theorem dX7_loses_39 : decode cX7_loses 39 = .ok (.getfield 7, 3) := by decide +kernel
theorem dX7_loses_42 : decode cX7_loses 42 = .ok (.iconst 5, 1) := by decide +kernel
theorem dX7_loses_43 : decode cX7_loses 43 = .ok (.dup2, 1) := by decide +kernel
theorem dX7_loses_44 : decode cX7_loses 44 = .ok (.iaload, 1) := by decide +kernel
theorem dX7_loses_45 : decode cX7_loses 45 = .ok (.iload_n 2, 1) := by decide +kernel
theorem dX7_loses_46 : decode cX7_loses 46 = .ok (.iadd, 1) := by decide +kernel
theorem dX7_loses_47 : decode cX7_loses 47 = .ok (.iastore, 1) := by decide +kernel
theorem dX7_loses_48 : decode cX7_loses 48 = .ok (.iload_n 2, 1) := by decide +kernel
theorem dX7_loses_49 : decode cX7_loses 49 = .ok (.ireturn, 1) := by decide +kernel
theorem dX7_comes_0 : decode cX7_comes 0 = .ok (.aload_n 0, 1) := by decide +kernel
theorem dX7_comes_1 : decode cX7_comes 1 = .ok (.iload_n 1, 1) := by decide +kernel
theorem dX7_comes_2 : decode cX7_comes 2 = .ok (.iconst 2, 1) := by decide +kernel
theorem dX7_comes_3 : decode cX7_comes 3 = .ok (.aload_n 0, 1) := by decide +kernel
theorem dX7_comes_4 : decode cX7_comes 4 = .ok (.iload_n 1, 1) := by decide +kernel
theorem dX7_comes_5 : decode cX7_comes 5 = .ok (.iconst 2, 1) := by decide +kernel
theorem dX7_comes_6 : decode cX7_comes 6 = .ok (.invokevirtual 34, 3) := by decide +kernel
theorem dX7_comes_9 : decode cX7_comes 9 = .ok (.iload_n 2, 1) := by decide +kernel
theorem dX7_comes_10 : decode cX7_comes 10 = .ok (.iadd, 1) := by decide +kernel
theorem dX7_comes_11 : decode cX7_comes 11 = .ok (.invokevirtual 43, 3) := by decide +kernel
theorem dX7_comes_14 : decode cX7_comes 14 = .ok (.aload_n 0, 1) := by decide +kernel
theorem dX7_comes_15 : decode cX7_comes 15 = .ok (.getfield 7, 3) := by decide +kernel
theorem dX7_comes_18 : decode cX7_comes 18 = .ok (.iconst 3, 1) := by decide +kernel
theorem dX7_comes_19 : decode cX7_comes 19 = .ok (.dup2, 1) := by decide +kernel
theorem dX7_comes_20 : decode cX7_comes 20 = .ok (.iaload, 1) := by decide +kernel
theorem dX7_comes_21 : decode cX7_comes 21 = .ok (.iload_n 2, 1) := by decide +kernel
theorem dX7_comes_22 : decode cX7_comes 22 = .ok (.iadd, 1) := by decide +kernel
theorem dX7_comes_23 : decode cX7_comes 23 = .ok (.iastore, 1) := by decide +kernel
theorem dX7_comes_24 : decode cX7_comes 24 = .ok (.aload_n 0, 1) := by decide +kernel
theorem dX7_comes_25 : decode cX7_comes 25 = .ok (.iload_n 1, 1) := by decide +kernel
theorem dX7_comes_26 : decode cX7_comes 26 = .ok (.invokevirtual 47, 3) := by decide +kernel
theorem dX7_comes_29 : decode cX7_comes 29 = .ok (.istore_n 3, 1) := by decide +kernel
theorem dX7_comes_30 : decode cX7_comes 30 = .ok (.return_, 1) := by decide +kernel
theorem dX7_bowl_0 : decode cX7_bowl 0 = .ok (.iload_n 1, 1) := by decide +kernel
theorem dX7_bowl_1 : decode cX7_bowl 1 = .ok (.iconst 0, 1) := by decide +kernel
theorem dX7_bowl_2 : decode cX7_bowl 2 = .ok (.sipush 6000, 3) := by decide +kernel
theorem dX7_bowl_5 : decode cX7_bowl 5 = .ok (.invokestatic 25, 3) := by decide +kernel
theorem dX7_bowl_8 : decode cX7_bowl 8 = .ok (.ifCond .eq 14, 3) := by decide +kernel
theorem dX7_bowl_11 : decode cX7_bowl 11 = .ok (.iload_n 2, 1) := by decide +kernel
theorem dX7_bowl_12 : decode cX7_bowl 12 = .ok (.iconst 1, 1) := by decide +kernel
theorem dX7_bowl_13 : decode cX7_bowl 13 = .ok (.sipush 2400, 3) := by decide +kernel
theorem dX7_bowl_16 : decode cX7_bowl 16 = .ok (.invokestatic 25, 3) := by decide +kernel
theorem dX7_bowl_19 : decode cX7_bowl 19 = .ok (.ifCond .ne 6, 3) := by decide +kernel
theorem dX7_bowl_22 : decode cX7_bowl 22 = .ok (.ldc 51, 2) := by decide +kernel
theorem dX7_bowl_24 : decode cX7_bowl 24 = .ok (.ireturn, 1) := by decide +kernel
theorem dX7_bowl_25 : decode cX7_bowl 25 = .ok (.aload_n 0, 1) := by decide +kernel
theorem dX7_bowl_26 : decode cX7_bowl 26 = .ok (.getfield 7, 3) := by decide +kernel
theorem dX7_bowl_29 : decode cX7_bowl 29 = .ok (.iconst 1, 1) := by decide +kernel
theorem dX7_bowl_30 : decode cX7_bowl 30 = .ok (.iaload, 1) := by decide +kernel
theorem dX7_bowl_31 : decode cX7_bowl 31 = .ok (.bipush 10, 2) := by decide +kernel
theorem dX7_bowl_33 : decode cX7_bowl 33 = .ok (.if_icmp .ne 6, 3) := by decide +kernel
theorem dX7_bowl_36 : decode cX7_bowl 36 = .ok (.ldc 52, 2) := by decide +kernel
theorem dX7_bowl_38 : decode cX7_bowl 38 = .ok (.ireturn, 1) := by decide +kernel
theorem dX7_bowl_39 : decode cX7_bowl 39 = .ok (.aload_n 0, 1) := by decide +kernel
theorem dX7_bowl_40 : decode cX7_bowl 40 = .ok (.invokevirtual 53, 3) := by decide +kernel
theorem dX7_bowl_43 : decode cX7_bowl 43 = .ok (.aload_n 0, 1) := by decide +kernel
theorem dX7_bowl_44 : decode cX7_bowl 44 = .ok (.getfield 7, 3) := by decide +kernel
theorem dX7_bowl_47 : decode cX7_bowl 47 = .ok (.iconst 1, 1) := by decide +kernel
theorem dX7_bowl_48 : decode cX7_bowl 48 = .ok (.iaload, 1) := by decide +kernel
theorem dX7_bowl_49 : decode cX7_bowl 49 = .ok (.istore_n 3, 1) := by decide +kernel
theorem dX7_bowl_50 : decode cX7_bowl 50 = .ok (.aload_n 0, 1) := by decide +kernel
theorem dX7_bowl_51 : decode cX7_bowl 51 = .ok (.iload_n 3, 1) := by decide +kernel
theorem dX7_bowl_52 : decode cX7_bowl 52 = .ok (.iconst 0, 1) := by decide +kernel
theorem dX7_bowl_53 : decode cX7_bowl 53 = .ok (.iload_n 1, 1) := by decide +kernel
theorem dX7_bowl_54 : decode cX7_bowl 54 = .ok (.invokevirtual 43, 3) := by decide +kernel
theorem dX7_bowl_57 : decode cX7_bowl 57 = .ok (.aload_n 0, 1) := by decide +kernel
theorem dX7_bowl_58 : decode cX7_bowl 58 = .ok (.iload_n 3, 1) := by decide +kernel
theorem dX7_bowl_59 : decode cX7_bowl 59 = .ok (.iconst 1, 1) := by decide +kernel
theorem dX7_bowl_60 : decode cX7_bowl 60 = .ok (.iload_n 2, 1) := by decide +kernel
theorem dX7_bowl_61 : decode cX7_bowl 61 = .ok (.invokevirtual 43, 3) := by decide +kernel
theorem dX7_bowl_64 : decode cX7_bowl 64 = .ok (.aload_n 0, 1) := by decide +kernel
theorem dX7_bowl_65 : decode cX7_bowl 65 = .ok (.iload_n 3, 1) := by decide +kernel
theorem dX7_bowl_66 : decode cX7_bowl 66 = .ok (.iconst 2, 1) := by decide +kernel
theorem dX7_bowl_67 : decode cX7_bowl 67 = .ok (.iconst 0, 1) := by decide +kernel
theorem dX7_bowl_68 : decode cX7_bowl 68 = .ok (.invokevirtual 43, 3) := by decide +kernel
theorem dX7_bowl_71 : decode cX7_bowl 71 = .ok (.aload_n 0, 1) := by decide +kernel
theorem dX7_bowl_72 : decode cX7_bowl 72 = .ok (.iload_n 3, 1) := by decide +kernel
theorem dX7_bowl_73 : decode cX7_bowl 73 = .ok (.iconst 3, 1) := by decide +kernel
theorem dX7_bowl_74 : decode cX7_bowl 74 = .ok (.iconst 0, 1) := by decide +kernel
theorem dX7_bowl_75 : decode cX7_bowl 75 = .ok (.invokevirtual 43, 3) := by decide +kernel
theorem dX7_bowl_78 : decode cX7_bowl 78 = .ok (.aload_n 0, 1) := by decide +kernel
theorem dX7_bowl_79 : decode cX7_bowl 79 = .ok (.iload_n 3, 1) := by decide +kernel
theorem dX7_bowl_80 : decode cX7_bowl 80 = .ok (.iconst 4, 1) := by decide +kernel
theorem dX7_bowl_81 : decode cX7_bowl 81 = .ok (.sipush 1000, 3) := by decide +kernel
theorem dX7_bowl_84 : decode cX7_bowl 84 = .ok (.invokevirtual 43, 3) := by decide +kernel
theorem dX7_bowl_87 : decode cX7_bowl 87 = .ok (.aload_n 0, 1) := by decide +kernel
theorem dX7_bowl_88 : decode cX7_bowl 88 = .ok (.getfield 7, 3) := by decide +kernel
theorem dX7_bowl_91 : decode cX7_bowl 91 = .ok (.iconst 1, 1) := by decide +kernel
theorem dX7_bowl_92 : decode cX7_bowl 92 = .ok (.dup2, 1) := by decide +kernel
theorem dX7_bowl_93 : decode cX7_bowl 93 = .ok (.iaload, 1) := by decide +kernel
theorem dX7_bowl_94 : decode cX7_bowl 94 = .ok (.iconst 1, 1) := by decide +kernel
theorem dX7_bowl_95 : decode cX7_bowl 95 = .ok (.iadd, 1) := by decide +kernel
theorem dX7_bowl_96 : decode cX7_bowl 96 = .ok (.iastore, 1) := by decide +kernel
theorem dX7_bowl_97 : decode cX7_bowl 97 = .ok (.iload_n 3, 1) := by decide +kernel
theorem dX7_bowl_98 : decode cX7_bowl 98 = .ok (.ireturn, 1) := by decide +kernel
theorem dX7_remove_0 : decode cX7_remove 0 = .ok (.aload_n 0, 1) := by decide +kernel
theorem dX7_remove_1 : decode cX7_remove 1 = .ok (.iload_n 1, 1) := by decide +kernel
theorem dX7_remove_2 : decode cX7_remove 2 = .ok (.invokevirtual 56, 3) := by decide +kernel
theorem dX7_remove_5 : decode cX7_remove 5 = .ok (.ifCond .ne 6, 3) := by decide +kernel
theorem dX7_remove_8 : decode cX7_remove 8 = .ok (.ldc 51, 2) := by decide +kernel
theorem dX7_remove_10 : decode cX7_remove 10 = .ok (.ireturn, 1) := by decide +kernel
theorem dX7_remove_11 : decode cX7_remove 11 = .ok (.aload_n 0, 1) := by decide +kernel
theorem dX7_remove_12 : decode cX7_remove 12 = .ok (.invokevirtual 53, 3) := by decide +kernel
theorem dX7_remove_15 : decode cX7_remove 15 = .ok (.aload_n 0, 1) := by decide +kernel
theorem dX7_remove_16 : decode cX7_remove 16 = .ok (.getfield 7, 3) := by decide +kernel
theorem dX7_remove_19 : decode cX7_remove 19 = .ok (.bipush 6, 2) := by decide +kernel
theorem dX7_remove_21 : decode cX7_remove 21 = .ok (.dup2, 1) := by decide +kernel
theorem dX7_remove_22 : decode cX7_remove 22 = .ok (.iaload, 1) := by decide +kernel
theorem dX7_remove_23 : decode cX7_remove 23 = .ok (.aload_n 0, 1) := by decide +kernel
theorem dX7_remove_24 : decode cX7_remove 24 = .ok (.iload_n 1, 1) := by decide +kernel
theorem dX7_remove_25 : decode cX7_remove 25 = .ok (.iconst 2, 1) := by decide +kernel
theorem dX7_remove_26 : decode cX7_remove 26 = .ok (.invokevirtual 34, 3) := by decide +kernel
theorem dX7_remove_29 : decode cX7_remove 29 = .ok (.iadd, 1) := by decide +kernel
theorem dX7_remove_30 : decode cX7_remove 30 = .ok (.iastore, 1) := by decide +kernel
theorem dX7_remove_31 : decode cX7_remove 31 = .ok (.aload_n 0, 1) := by decide +kernel
theorem dX7_remove_32 : decode cX7_remove 32 = .ok (.getfield 7, 3) := by decide +kernel
theorem dX7_remove_35 : decode cX7_remove 35 = .ok (.iconst 1, 1) := by decide +kernel
theorem dX7_remove_36 : decode cX7_remove 36 = .ok (.dup2, 1) := by decide +kernel
theorem dX7_remove_37 : decode cX7_remove 37 = .ok (.iaload, 1) := by decide +kernel
theorem dX7_remove_38 : decode cX7_remove 38 = .ok (.iconst 1, 1) := by decide +kernel
theorem dX7_remove_39 : decode cX7_remove 39 = .ok (.isub, 1) := by decide +kernel
theorem dX7_remove_40 : decode cX7_remove 40 = .ok (.iastore, 1) := by decide +kernel
theorem dX7_remove_41 : decode cX7_remove 41 = .ok (.bipush 11, 2) := by decide +kernel
theorem dX7_remove_43 : decode cX7_remove 43 = .ok (.iconst 5, 1) := by decide +kernel
theorem dX7_remove_44 : decode cX7_remove 44 = .ok (.iload_n 1, 1) := by decide +kernel
theorem dX7_remove_45 : decode cX7_remove 45 = .ok (.imul, 1) := by decide +kernel
theorem dX7_remove_46 : decode cX7_remove 46 = .ok (.iadd, 1) := by decide +kernel
theorem dX7_remove_47 : decode cX7_remove 47 = .ok (.istore_n 2, 1) := by decide +kernel
theorem dX7_remove_48 : decode cX7_remove 48 = .ok (.iload_n 2, 1) := by decide +kernel
theorem dX7_remove_49 : decode cX7_remove 49 = .ok (.bipush 11, 2) := by decide +kernel
theorem dX7_remove_51 : decode cX7_remove 51 = .ok (.iconst 5, 1) := by decide +kernel
theorem dX7_remove_52 : decode cX7_remove 52 = .ok (.aload_n 0, 1) := by decide +kernel
theorem dX7_remove_53 : decode cX7_remove 53 = .ok (.getfield 7, 3) := by decide +kernel
theorem dX7_remove_56 : decode cX7_remove 56 = .ok (.iconst 1, 1) := by decide +kernel
theorem dX7_remove_57 : decode cX7_remove 57 = .ok (.iaload, 1) := by decide +kernel
theorem dX7_remove_58 : decode cX7_remove 58 = .ok (.imul, 1) := by decide +kernel
theorem dX7_remove_59 : decode cX7_remove 59 = .ok (.iadd, 1) := by decide +kernel
theorem dX7_remove_60 : decode cX7_remove 60 = .ok (.if_icmp .ge 23, 3) := by decide +kernel
theorem dX7_remove_63 : decode cX7_remove 63 = .ok (.aload_n 0, 1) := by decide +kernel
theorem dX7_remove_64 : decode cX7_remove 64 = .ok (.getfield 7, 3) := by decide +kernel
theorem dX7_remove_67 : decode cX7_remove 67 = .ok (.iload_n 2, 1) := by decide +kernel
theorem dX7_remove_68 : decode cX7_remove 68 = .ok (.aload_n 0, 1) := by decide +kernel
theorem dX7_remove_69 : decode cX7_remove 69 = .ok (.getfield 7, 3) := by decide +kernel
theorem dX7_remove_72 : decode cX7_remove 72 = .ok (.iload_n 2, 1) := by decide +kernel
theorem dX7_remove_73 : decode cX7_remove 73 = .ok (.iconst 5, 1) := by decide +kernel
theorem dX7_remove_74 : decode cX7_remove 74 = .ok (.iadd, 1) := by decide +kernel
theorem dX7_remove_75 : decode cX7_remove 75 = .ok (.iaload, 1) := by decide +kernel
theorem dX7_remove_76 : decode cX7_remove 76 = .ok (.iastore, 1) := by decide +kernel
theorem dX7_remove_77 : decode cX7_remove 77 = .ok (.iinc 2 1, 3) := by decide +kernel
theorem dX7_remove_80 : decode cX7_remove 80 = .ok (.goto (-32), 3) := by decide +kernel
theorem dX7_remove_83 : decode cX7_remove 83 = .ok (.aload_n 0, 1) := by decide +kernel
theorem dX7_remove_84 : decode cX7_remove 84 = .ok (.getfield 7, 3) := by decide +kernel
theorem dX7_remove_87 : decode cX7_remove 87 = .ok (.iconst 1, 1) := by decide +kernel
theorem dX7_remove_88 : decode cX7_remove 88 = .ok (.iaload, 1) := by decide +kernel
theorem dX7_remove_89 : decode cX7_remove 89 = .ok (.ireturn, 1) := by decide +kernel
theorem dX7_pour_0 : decode cX7_pour 0 = .ok (.aload_n 0, 1) := by decide +kernel
theorem dX7_pour_1 : decode cX7_pour 1 = .ok (.iload_n 1, 1) := by decide +kernel
theorem dX7_pour_2 : decode cX7_pour 2 = .ok (.invokevirtual 56, 3) := by decide +kernel
theorem dX7_pour_5 : decode cX7_pour 5 = .ok (.ifCond .eq 14, 3) := by decide +kernel
theorem dX7_pour_8 : decode cX7_pour 8 = .ok (.iload_n 2, 1) := by decide +kernel
theorem dX7_pour_9 : decode cX7_pour 9 = .ok (.iconst 1, 1) := by decide +kernel
theorem dX7_pour_10 : decode cX7_pour 10 = .ok (.sipush 1000, 3) := by decide +kernel
theorem dX7_pour_13 : decode cX7_pour 13 = .ok (.invokestatic 25, 3) := by decide +kernel
theorem dX7_pour_16 : decode cX7_pour 16 = .ok (.ifCond .ne 6, 3) := by decide +kernel
theorem dX7_pour_19 : decode cX7_pour 19 = .ok (.ldc 51, 2) := by decide +kernel
theorem dX7_pour_21 : decode cX7_pour 21 = .ok (.ireturn, 1) := by decide +kernel
theorem dX7_pour_22 : decode cX7_pour 22 = .ok (.aload_n 0, 1) := by decide +kernel
theorem dX7_pour_23 : decode cX7_pour 23 = .ok (.iload_n 1, 1) := by decide +kernel
theorem dX7_pour_24 : decode cX7_pour 24 = .ok (.iconst 2, 1) := by decide +kernel
theorem dX7_pour_25 : decode cX7_pour 25 = .ok (.invokevirtual 34, 3) := by decide +kernel
theorem dX7_pour_28 : decode cX7_pour 28 = .ok (.iload_n 2, 1) := by decide +kernel
theorem dX7_pour_29 : decode cX7_pour 29 = .ok (.iadd, 1) := by decide +kernel
theorem dX7_pour_30 : decode cX7_pour 30 = .ok (.sipush 1000, 3) := by decide +kernel
theorem dX7_pour_33 : decode cX7_pour 33 = .ok (.if_icmp .le 6, 3) := by decide +kernel
theorem dX7_pour_36 : decode cX7_pour 36 = .ok (.ldc 52, 2) := by decide +kernel
theorem dX7_pour_38 : decode cX7_pour 38 = .ok (.ireturn, 1) := by decide +kernel
theorem dX7_pour_39 : decode cX7_pour 39 = .ok (.aload_n 0, 1) := by decide +kernel
theorem dX7_pour_40 : decode cX7_pour 40 = .ok (.invokevirtual 53, 3) := by decide +kernel
theorem dX7_pour_43 : decode cX7_pour 43 = .ok (.aload_n 0, 1) := by decide +kernel
theorem dX7_pour_44 : decode cX7_pour 44 = .ok (.iload_n 1, 1) := by decide +kernel
theorem dX7_pour_45 : decode cX7_pour 45 = .ok (.iload_n 2, 1) := by decide +kernel
theorem dX7_pour_46 : decode cX7_pour 46 = .ok (.invokevirtual 60, 3) := by decide +kernel
theorem dX7_pour_49 : decode cX7_pour 49 = .ok (.aload_n 0, 1) := by decide +kernel
theorem dX7_pour_50 : decode cX7_pour 50 = .ok (.iload_n 1, 1) := by decide +kernel
theorem dX7_pour_51 : decode cX7_pour 51 = .ok (.iconst 2, 1) := by decide +kernel
theorem dX7_pour_52 : decode cX7_pour 52 = .ok (.invokevirtual 34, 3) := by decide +kernel
theorem dX7_pour_55 : decode cX7_pour 55 = .ok (.ireturn, 1) := by decide +kernel
theorem dX7_spill_0 : decode cX7_spill 0 = .ok (.aload_n 0, 1) := by decide +kernel
theorem dX7_spill_1 : decode cX7_spill 1 = .ok (.iload_n 1, 1) := by decide +kernel
theorem dX7_spill_2 : decode cX7_spill 2 = .ok (.invokevirtual 56, 3) := by decide +kernel
theorem dX7_spill_5 : decode cX7_spill 5 = .ok (.ifCond .eq 14, 3) := by decide +kernel
theorem dX7_spill_8 : decode cX7_spill 8 = .ok (.iload_n 2, 1) := by decide +kernel
theorem dX7_spill_9 : decode cX7_spill 9 = .ok (.iconst 1, 1) := by decide +kernel
theorem dX7_spill_10 : decode cX7_spill 10 = .ok (.sipush 1000, 3) := by decide +kernel
theorem dX7_spill_13 : decode cX7_spill 13 = .ok (.invokestatic 25, 3) := by decide +kernel
theorem dX7_spill_16 : decode cX7_spill 16 = .ok (.ifCond .ne 6, 3) := by decide +kernel
theorem dX7_spill_19 : decode cX7_spill 19 = .ok (.ldc 51, 2) := by decide +kernel
theorem dX7_spill_21 : decode cX7_spill 21 = .ok (.ireturn, 1) := by decide +kernel
theorem dX7_spill_22 : decode cX7_spill 22 = .ok (.aload_n 0, 1) := by decide +kernel
theorem dX7_spill_23 : decode cX7_spill 23 = .ok (.iload_n 1, 1) := by decide +kernel
theorem dX7_spill_24 : decode cX7_spill 24 = .ok (.iconst 2, 1) := by decide +kernel
theorem dX7_spill_25 : decode cX7_spill 25 = .ok (.invokevirtual 34, 3) := by decide +kernel
theorem dX7_spill_28 : decode cX7_spill 28 = .ok (.iload_n 2, 1) := by decide +kernel
theorem dX7_spill_29 : decode cX7_spill 29 = .ok (.if_icmp .ge 6, 3) := by decide +kernel
theorem dX7_spill_32 : decode cX7_spill 32 = .ok (.ldc 33, 2) := by decide +kernel
theorem dX7_spill_34 : decode cX7_spill 34 = .ok (.ireturn, 1) := by decide +kernel
theorem dX7_spill_35 : decode cX7_spill 35 = .ok (.aload_n 0, 1) := by decide +kernel
theorem dX7_spill_36 : decode cX7_spill 36 = .ok (.invokevirtual 53, 3) := by decide +kernel
theorem dX7_spill_39 : decode cX7_spill 39 = .ok (.aload_n 0, 1) := by decide +kernel
theorem dX7_spill_40 : decode cX7_spill 40 = .ok (.iload_n 1, 1) := by decide +kernel
theorem dX7_spill_41 : decode cX7_spill 41 = .ok (.iconst 2, 1) := by decide +kernel
theorem dX7_spill_42 : decode cX7_spill 42 = .ok (.aload_n 0, 1) := by decide +kernel
theorem dX7_spill_43 : decode cX7_spill 43 = .ok (.iload_n 1, 1) := by decide +kernel
theorem dX7_spill_44 : decode cX7_spill 44 = .ok (.iconst 2, 1) := by decide +kernel
theorem dX7_spill_45 : decode cX7_spill 45 = .ok (.invokevirtual 34, 3) := by decide +kernel
theorem dX7_spill_48 : decode cX7_spill 48 = .ok (.iload_n 2, 1) := by decide +kernel
theorem dX7_spill_49 : decode cX7_spill 49 = .ok (.isub, 1) := by decide +kernel
theorem dX7_spill_50 : decode cX7_spill 50 = .ok (.invokevirtual 43, 3) := by decide +kernel
theorem dX7_spill_53 : decode cX7_spill 53 = .ok (.aload_n 0, 1) := by decide +kernel
theorem dX7_spill_54 : decode cX7_spill 54 = .ok (.getfield 7, 3) := by decide +kernel
theorem dX7_spill_57 : decode cX7_spill 57 = .ok (.bipush 6, 2) := by decide +kernel
theorem dX7_spill_59 : decode cX7_spill 59 = .ok (.dup2, 1) := by decide +kernel
theorem dX7_spill_60 : decode cX7_spill 60 = .ok (.iaload, 1) := by decide +kernel
theorem dX7_spill_61 : decode cX7_spill 61 = .ok (.iload_n 2, 1) := by decide +kernel
theorem dX7_spill_62 : decode cX7_spill 62 = .ok (.iadd, 1) := by decide +kernel
theorem dX7_spill_63 : decode cX7_spill 63 = .ok (.iastore, 1) := by decide +kernel
theorem dX7_spill_64 : decode cX7_spill 64 = .ok (.aload_n 0, 1) := by decide +kernel
theorem dX7_spill_65 : decode cX7_spill 65 = .ok (.iload_n 1, 1) := by decide +kernel
theorem dX7_spill_66 : decode cX7_spill 66 = .ok (.iconst 2, 1) := by decide +kernel
theorem dX7_spill_67 : decode cX7_spill 67 = .ok (.invokevirtual 34, 3) := by decide +kernel
theorem dX7_spill_70 : decode cX7_spill 70 = .ok (.ireturn, 1) := by decide +kernel
theorem dX7_crack_0 : decode cX7_crack 0 = .ok (.aload_n 0, 1) := by decide +kernel
theorem dX7_crack_1 : decode cX7_crack 1 = .ok (.iload_n 1, 1) := by decide +kernel
theorem dX7_crack_2 : decode cX7_crack 2 = .ok (.invokevirtual 56, 3) := by decide +kernel
theorem dX7_crack_5 : decode cX7_crack 5 = .ok (.ifCond .eq 14, 3) := by decide +kernel
theorem dX7_crack_8 : decode cX7_crack 8 = .ok (.iload_n 2, 1) := by decide +kernel
theorem dX7_crack_9 : decode cX7_crack 9 = .ok (.iconst 0, 1) := by decide +kernel
theorem dX7_crack_10 : decode cX7_crack 10 = .ok (.sipush 1000, 3) := by decide +kernel
theorem dX7_crack_13 : decode cX7_crack 13 = .ok (.invokestatic 25, 3) := by decide +kernel
theorem dX7_crack_16 : decode cX7_crack 16 = .ok (.ifCond .ne 6, 3) := by decide +kernel
theorem dX7_crack_19 : decode cX7_crack 19 = .ok (.ldc 51, 2) := by decide +kernel
theorem dX7_crack_21 : decode cX7_crack 21 = .ok (.ireturn, 1) := by decide +kernel
theorem dX7_crack_22 : decode cX7_crack 22 = .ok (.aload_n 0, 1) := by decide +kernel
theorem dX7_crack_23 : decode cX7_crack 23 = .ok (.invokevirtual 53, 3) := by decide +kernel
theorem dX7_crack_26 : decode cX7_crack 26 = .ok (.aload_n 0, 1) := by decide +kernel
theorem dX7_crack_27 : decode cX7_crack 27 = .ok (.iload_n 1, 1) := by decide +kernel
theorem dX7_crack_28 : decode cX7_crack 28 = .ok (.iconst 4, 1) := by decide +kernel
theorem dX7_crack_29 : decode cX7_crack 29 = .ok (.iload_n 2, 1) := by decide +kernel
theorem dX7_crack_30 : decode cX7_crack 30 = .ok (.invokevirtual 43, 3) := by decide +kernel
theorem dX7_crack_33 : decode cX7_crack 33 = .ok (.aload_n 0, 1) := by decide +kernel
theorem dX7_crack_34 : decode cX7_crack 34 = .ok (.iload_n 1, 1) := by decide +kernel
theorem dX7_crack_35 : decode cX7_crack 35 = .ok (.invokevirtual 47, 3) := by decide +kernel
theorem dX7_crack_38 : decode cX7_crack 38 = .ok (.ireturn, 1) := by decide +kernel
theorem dX7_mark_0 : decode cX7_mark 0 = .ok (.aload_n 0, 1) := by decide +kernel
theorem dX7_mark_1 : decode cX7_mark 1 = .ok (.iload_n 1, 1) := by decide +kernel
theorem dX7_mark_2 : decode cX7_mark 2 = .ok (.invokevirtual 56, 3) := by decide +kernel
theorem dX7_mark_5 : decode cX7_mark 5 = .ok (.ifCond .eq 14, 3) := by decide +kernel
theorem dX7_mark_8 : decode cX7_mark 8 = .ok (.iload_n 2, 1) := by decide +kernel
theorem dX7_mark_9 : decode cX7_mark 9 = .ok (.iconst 0, 1) := by decide +kernel
theorem dX7_mark_10 : decode cX7_mark 10 = .ok (.sipush 1000, 3) := by decide +kernel
theorem dX7_mark_13 : decode cX7_mark 13 = .ok (.invokestatic 25, 3) := by decide +kernel
theorem dX7_mark_16 : decode cX7_mark 16 = .ok (.ifCond .ne 6, 3) := by decide +kernel
theorem dX7_mark_19 : decode cX7_mark 19 = .ok (.ldc 51, 2) := by decide +kernel
theorem dX7_mark_21 : decode cX7_mark 21 = .ok (.ireturn, 1) := by decide +kernel
theorem dX7_mark_22 : decode cX7_mark 22 = .ok (.aload_n 0, 1) := by decide +kernel
theorem dX7_mark_23 : decode cX7_mark 23 = .ok (.invokevirtual 53, 3) := by decide +kernel
theorem dX7_mark_26 : decode cX7_mark 26 = .ok (.aload_n 0, 1) := by decide +kernel
theorem dX7_mark_27 : decode cX7_mark 27 = .ok (.iload_n 1, 1) := by decide +kernel
theorem dX7_mark_28 : decode cX7_mark 28 = .ok (.iconst 3, 1) := by decide +kernel
theorem dX7_mark_29 : decode cX7_mark 29 = .ok (.invokevirtual 34, 3) := by decide +kernel
theorem dX7_mark_32 : decode cX7_mark 32 = .ok (.istore_n 3, 1) := by decide +kernel
theorem dX7_mark_33 : decode cX7_mark 33 = .ok (.aload_n 0, 1) := by decide +kernel
theorem dX7_mark_34 : decode cX7_mark 34 = .ok (.iload_n 1, 1) := by decide +kernel
theorem dX7_mark_35 : decode cX7_mark 35 = .ok (.iconst 3, 1) := by decide +kernel
theorem dX7_mark_36 : decode cX7_mark 36 = .ok (.iload_n 2, 1) := by decide +kernel
theorem dX7_mark_37 : decode cX7_mark 37 = .ok (.invokevirtual 43, 3) := by decide +kernel
theorem dX7_mark_40 : decode cX7_mark 40 = .ok (.iload_n 3, 1) := by decide +kernel
theorem dX7_mark_41 : decode cX7_mark 41 = .ok (.ireturn, 1) := by decide +kernel
theorem dX7_bowlOf_0 : decode cX7_bowlOf 0 = .ok (.aload_n 0, 1) := by decide +kernel
theorem dX7_bowlOf_1 : decode cX7_bowlOf 1 = .ok (.iload_n 1, 1) := by decide +kernel
theorem dX7_bowlOf_2 : decode cX7_bowlOf 2 = .ok (.invokevirtual 56, 3) := by decide +kernel
theorem dX7_bowlOf_5 : decode cX7_bowlOf 5 = .ok (.ifCond .eq 13, 3) := by decide +kernel
theorem dX7_bowlOf_8 : decode cX7_bowlOf 8 = .ok (.iload_n 2, 1) := by decide +kernel
theorem dX7_bowlOf_9 : decode cX7_bowlOf 9 = .ok (.iconst 0, 1) := by decide +kernel
theorem dX7_bowlOf_10 : decode cX7_bowlOf 10 = .ok (.bipush 6, 2) := by decide +kernel
theorem dX7_bowlOf_12 : decode cX7_bowlOf 12 = .ok (.invokestatic 25, 3) := by decide +kernel
theorem dX7_bowlOf_15 : decode cX7_bowlOf 15 = .ok (.ifCond .ne 6, 3) := by decide +kernel
theorem dX7_bowlOf_18 : decode cX7_bowlOf 18 = .ok (.ldc 51, 2) := by decide +kernel
theorem dX7_bowlOf_20 : decode cX7_bowlOf 20 = .ok (.ireturn, 1) := by decide +kernel
theorem dX7_bowlOf_21 : decode cX7_bowlOf 21 = .ok (.aload_n 0, 1) := by decide +kernel
theorem dX7_bowlOf_22 : decode cX7_bowlOf 22 = .ok (.iload_n 1, 1) := by decide +kernel
theorem dX7_bowlOf_23 : decode cX7_bowlOf 23 = .ok (.iconst 3, 1) := by decide +kernel
theorem dX7_bowlOf_24 : decode cX7_bowlOf 24 = .ok (.invokevirtual 34, 3) := by decide +kernel
theorem dX7_bowlOf_27 : decode cX7_bowlOf 27 = .ok (.aload_n 0, 1) := by decide +kernel
theorem dX7_bowlOf_28 : decode cX7_bowlOf 28 = .ok (.iload_n 1, 1) := by decide +kernel
theorem dX7_bowlOf_29 : decode cX7_bowlOf 29 = .ok (.iconst 4, 1) := by decide +kernel
theorem dX7_bowlOf_30 : decode cX7_bowlOf 30 = .ok (.invokevirtual 34, 3) := by decide +kernel
theorem dX7_bowlOf_33 : decode cX7_bowlOf 33 = .ok (.if_icmp .ge 12, 3) := by decide +kernel
theorem dX7_bowlOf_36 : decode cX7_bowlOf 36 = .ok (.aload_n 0, 1) := by decide +kernel
theorem dX7_bowlOf_37 : decode cX7_bowlOf 37 = .ok (.iload_n 1, 1) := by decide +kernel
theorem dX7_bowlOf_38 : decode cX7_bowlOf 38 = .ok (.iconst 3, 1) := by decide +kernel
theorem dX7_bowlOf_39 : decode cX7_bowlOf 39 = .ok (.invokevirtual 34, 3) := by decide +kernel
theorem dX7_bowlOf_42 : decode cX7_bowlOf 42 = .ok (.goto 9, 3) := by decide +kernel
theorem dX7_bowlOf_45 : decode cX7_bowlOf 45 = .ok (.aload_n 0, 1) := by decide +kernel
theorem dX7_bowlOf_46 : decode cX7_bowlOf 46 = .ok (.iload_n 1, 1) := by decide +kernel
theorem dX7_bowlOf_47 : decode cX7_bowlOf 47 = .ok (.iconst 4, 1) := by decide +kernel
theorem dX7_bowlOf_48 : decode cX7_bowlOf 48 = .ok (.invokevirtual 34, 3) := by decide +kernel
theorem dX7_bowlOf_51 : decode cX7_bowlOf 51 = .ok (.istore_n 3, 1) := by decide +kernel
theorem dX7_bowlOf_52 : decode cX7_bowlOf 52 = .ok (.iload_n 2, 1) := by decide +kernel
theorem dX7_bowlOf_53 : decode cX7_bowlOf 53 = .ok (.iconst 5, 1) := by decide +kernel
theorem dX7_bowlOf_54 : decode cX7_bowlOf 54 = .ok (.if_icmp .ge 12, 3) := by decide +kernel
theorem dX7_bowlOf_57 : decode cX7_bowlOf 57 = .ok (.aload_n 0, 1) := by decide +kernel
theorem dX7_bowlOf_58 : decode cX7_bowlOf 58 = .ok (.iload_n 1, 1) := by decide +kernel
theorem dX7_bowlOf_59 : decode cX7_bowlOf 59 = .ok (.iload_n 2, 1) := by decide +kernel
theorem dX7_bowlOf_60 : decode cX7_bowlOf 60 = .ok (.invokevirtual 34, 3) := by decide +kernel
theorem dX7_bowlOf_63 : decode cX7_bowlOf 63 = .ok (.goto 22, 3) := by decide +kernel
theorem dX7_bowlOf_66 : decode cX7_bowlOf 66 = .ok (.iload_n 2, 1) := by decide +kernel
theorem dX7_bowlOf_67 : decode cX7_bowlOf 67 = .ok (.iconst 5, 1) := by decide +kernel
theorem dX7_bowlOf_68 : decode cX7_bowlOf 68 = .ok (.if_icmp .ne 11, 3) := by decide +kernel
theorem dX7_bowlOf_71 : decode cX7_bowlOf 71 = .ok (.aload_n 0, 1) := by decide +kernel
theorem dX7_bowlOf_72 : decode cX7_bowlOf 72 = .ok (.iload_n 1, 1) := by decide +kernel
theorem dX7_bowlOf_73 : decode cX7_bowlOf 73 = .ok (.invokevirtual 64, 3) := by decide +kernel
theorem dX7_bowlOf_76 : decode cX7_bowlOf 76 = .ok (.goto 9, 3) := by decide +kernel
theorem dX7_bowlOf_79 : decode cX7_bowlOf 79 = .ok (.aload_n 0, 1) := by decide +kernel
theorem dX7_bowlOf_80 : decode cX7_bowlOf 80 = .ok (.iload_n 1, 1) := by decide +kernel
theorem dX7_bowlOf_81 : decode cX7_bowlOf 81 = .ok (.iload_n 3, 1) := by decide +kernel
theorem dX7_bowlOf_82 : decode cX7_bowlOf 82 = .ok (.invokevirtual 40, 3) := by decide +kernel
theorem dX7_bowlOf_85 : decode cX7_bowlOf 85 = .ok (.ireturn, 1) := by decide +kernel
theorem dX7_levelFor_0 : decode cX7_levelFor 0 = .ok (.aload_n 0, 1) := by decide +kernel
theorem dX7_levelFor_1 : decode cX7_levelFor 1 = .ok (.iload_n 1, 1) := by decide +kernel
theorem dX7_levelFor_2 : decode cX7_levelFor 2 = .ok (.invokevirtual 56, 3) := by decide +kernel
theorem dX7_levelFor_5 : decode cX7_levelFor 5 = .ok (.ifCond .eq 16, 3) := by decide +kernel
theorem dX7_levelFor_8 : decode cX7_levelFor 8 = .ok (.iload_n 2, 1) := by decide +kernel
theorem dX7_levelFor_9 : decode cX7_levelFor 9 = .ok (.sipush (-3000), 3) := by decide +kernel
theorem dX7_levelFor_12 : decode cX7_levelFor 12 = .ok (.sipush 6000, 3) := by decide +kernel
theorem dX7_levelFor_15 : decode cX7_levelFor 15 = .ok (.invokestatic 25, 3) := by decide +kernel
theorem dX7_levelFor_18 : decode cX7_levelFor 18 = .ok (.ifCond .ne 6, 3) := by decide +kernel
theorem dX7_levelFor_21 : decode cX7_levelFor 21 = .ok (.ldc 51, 2) := by decide +kernel
theorem dX7_levelFor_23 : decode cX7_levelFor 23 = .ok (.ireturn, 1) := by decide +kernel
theorem dX7_levelFor_24 : decode cX7_levelFor 24 = .ok (.iconst 0, 1) := by decide +kernel
theorem dX7_levelFor_25 : decode cX7_levelFor 25 = .ok (.istore_n 3, 1) := by decide +kernel
theorem dX7_levelFor_26 : decode cX7_levelFor 26 = .ok (.iconst 1, 1) := by decide +kernel
theorem dX7_levelFor_27 : decode cX7_levelFor 27 = .ok (.istore 4, 2) := by decide +kernel
theorem dX7_levelFor_29 : decode cX7_levelFor 29 = .ok (.iload 4, 2) := by decide +kernel
theorem dX7_levelFor_31 : decode cX7_levelFor 31 = .ok (.aload_n 0, 1) := by decide +kernel
theorem dX7_levelFor_32 : decode cX7_levelFor 32 = .ok (.iload_n 1, 1) := by decide +kernel
theorem dX7_levelFor_33 : decode cX7_levelFor 33 = .ok (.iconst 4, 1) := by decide +kernel
theorem dX7_levelFor_34 : decode cX7_levelFor 34 = .ok (.invokevirtual 34, 3) := by decide +kernel
theorem dX7_levelFor_37 : decode cX7_levelFor 37 = .ok (.if_icmp .gt 42, 3) := by decide +kernel
theorem dX7_levelFor_40 : decode cX7_levelFor 40 = .ok (.aload_n 0, 1) := by decide +kernel
theorem dX7_levelFor_41 : decode cX7_levelFor 41 = .ok (.iload_n 1, 1) := by decide +kernel
theorem dX7_levelFor_42 : decode cX7_levelFor 42 = .ok (.iload 4, 2) := by decide +kernel
theorem dX7_levelFor_44 : decode cX7_levelFor 44 = .ok (.invokevirtual 40, 3) := by decide +kernel
theorem dX7_levelFor_47 : decode cX7_levelFor 47 = .ok (.iload_n 2, 1) := by decide +kernel
theorem dX7_levelFor_48 : decode cX7_levelFor 48 = .ok (.isub, 1) := by decide +kernel
theorem dX7_levelFor_49 : decode cX7_levelFor 49 = .ok (.invokestatic 67, 3) := by decide +kernel
theorem dX7_levelFor_52 : decode cX7_levelFor 52 = .ok (.aload_n 0, 1) := by decide +kernel
theorem dX7_levelFor_53 : decode cX7_levelFor 53 = .ok (.iload_n 1, 1) := by decide +kernel
theorem dX7_levelFor_54 : decode cX7_levelFor 54 = .ok (.iload_n 3, 1) := by decide +kernel
theorem dX7_levelFor_55 : decode cX7_levelFor 55 = .ok (.invokevirtual 40, 3) := by decide +kernel
theorem dX7_levelFor_58 : decode cX7_levelFor 58 = .ok (.iload_n 2, 1) := by decide +kernel
theorem dX7_levelFor_59 : decode cX7_levelFor 59 = .ok (.isub, 1) := by decide +kernel
theorem dX7_levelFor_60 : decode cX7_levelFor 60 = .ok (.invokestatic 67, 3) := by decide +kernel
theorem dX7_levelFor_63 : decode cX7_levelFor 63 = .ok (.if_icmp .ge 8, 3) := by decide +kernel
theorem dX7_levelFor_66 : decode cX7_levelFor 66 = .ok (.iload 4, 2) := by decide +kernel
theorem dX7_levelFor_68 : decode cX7_levelFor 68 = .ok (.goto 4, 3) := by decide +kernel
theorem dX7_levelFor_71 : decode cX7_levelFor 71 = .ok (.iload_n 3, 1) := by decide +kernel
theorem dX7_levelFor_72 : decode cX7_levelFor 72 = .ok (.istore_n 3, 1) := by decide +kernel
theorem dX7_levelFor_73 : decode cX7_levelFor 73 = .ok (.iinc 4 1, 3) := by decide +kernel
theorem dX7_levelFor_76 : decode cX7_levelFor 76 = .ok (.goto (-47), 3) := by decide +kernel
theorem dX7_levelFor_79 : decode cX7_levelFor 79 = .ok (.iload_n 3, 1) := by decide +kernel
theorem dX7_levelFor_80 : decode cX7_levelFor 80 = .ok (.ireturn, 1) := by decide +kernel
theorem dX7_sounds_0 : decode cX7_sounds 0 = .ok (.iconst (-1), 1) := by decide +kernel
theorem dX7_sounds_1 : decode cX7_sounds 1 = .ok (.istore_n 2, 1) := by decide +kernel
theorem dX7_sounds_2 : decode cX7_sounds 2 = .ok (.iconst 0, 1) := by decide +kernel
theorem dX7_sounds_3 : decode cX7_sounds 3 = .ok (.istore_n 3, 1) := by decide +kernel
theorem dX7_sounds_4 : decode cX7_sounds 4 = .ok (.iload_n 3, 1) := by decide +kernel
theorem dX7_sounds_5 : decode cX7_sounds 5 = .ok (.aload_n 0, 1) := by decide +kernel
theorem dX7_sounds_6 : decode cX7_sounds 6 = .ok (.getfield 7, 3) := by decide +kernel
theorem dX7_sounds_9 : decode cX7_sounds 9 = .ok (.iconst 1, 1) := by decide +kernel
theorem dX7_sounds_10 : decode cX7_sounds 10 = .ok (.iaload, 1) := by decide +kernel
theorem dX7_sounds_11 : decode cX7_sounds 11 = .ok (.if_icmp .ge 43, 3) := by decide +kernel
theorem dX7_sounds_14 : decode cX7_sounds 14 = .ok (.iload_n 2, 1) := by decide +kernel
theorem dX7_sounds_15 : decode cX7_sounds 15 = .ok (.iconst (-1), 1) := by decide +kernel
theorem dX7_sounds_16 : decode cX7_sounds 16 = .ok (.if_icmp .eq 26, 3) := by decide +kernel
theorem dX7_sounds_19 : decode cX7_sounds 19 = .ok (.aload_n 0, 1) := by decide +kernel
theorem dX7_sounds_20 : decode cX7_sounds 20 = .ok (.iload_n 3, 1) := by decide +kernel
theorem dX7_sounds_21 : decode cX7_sounds 21 = .ok (.invokevirtual 64, 3) := by decide +kernel
theorem dX7_sounds_24 : decode cX7_sounds 24 = .ok (.iload_n 1, 1) := by decide +kernel
theorem dX7_sounds_25 : decode cX7_sounds 25 = .ok (.isub, 1) := by decide +kernel
theorem dX7_sounds_26 : decode cX7_sounds 26 = .ok (.invokestatic 67, 3) := by decide +kernel
theorem dX7_sounds_29 : decode cX7_sounds 29 = .ok (.aload_n 0, 1) := by decide +kernel
theorem dX7_sounds_30 : decode cX7_sounds 30 = .ok (.iload_n 2, 1) := by decide +kernel
theorem dX7_sounds_31 : decode cX7_sounds 31 = .ok (.invokevirtual 64, 3) := by decide +kernel
theorem dX7_sounds_34 : decode cX7_sounds 34 = .ok (.iload_n 1, 1) := by decide +kernel
theorem dX7_sounds_35 : decode cX7_sounds 35 = .ok (.isub, 1) := by decide +kernel
theorem dX7_sounds_36 : decode cX7_sounds 36 = .ok (.invokestatic 67, 3) := by decide +kernel
theorem dX7_sounds_39 : decode cX7_sounds 39 = .ok (.if_icmp .ge 7, 3) := by decide +kernel
theorem dX7_sounds_42 : decode cX7_sounds 42 = .ok (.iload_n 3, 1) := by decide +kernel
theorem dX7_sounds_43 : decode cX7_sounds 43 = .ok (.goto 4, 3) := by decide +kernel
theorem dX7_sounds_46 : decode cX7_sounds 46 = .ok (.iload_n 2, 1) := by decide +kernel
theorem dX7_sounds_47 : decode cX7_sounds 47 = .ok (.istore_n 2, 1) := by decide +kernel
theorem dX7_sounds_48 : decode cX7_sounds 48 = .ok (.iinc 3 1, 3) := by decide +kernel
theorem dX7_sounds_51 : decode cX7_sounds 51 = .ok (.goto (-47), 3) := by decide +kernel
theorem dX7_sounds_54 : decode cX7_sounds 54 = .ok (.iload_n 2, 1) := by decide +kernel
theorem dX7_sounds_55 : decode cX7_sounds 55 = .ok (.ireturn, 1) := by decide +kernel
theorem dX7_nearest_0 : decode cX7_nearest 0 = .ok (.iload_n 1, 1) := by decide +kernel
theorem dX7_nearest_1 : decode cX7_nearest 1 = .ok (.iconst 0, 1) := by decide +kernel
theorem dX7_nearest_2 : decode cX7_nearest 2 = .ok (.sipush 6000, 3) := by decide +kernel
theorem dX7_nearest_5 : decode cX7_nearest 5 = .ok (.invokestatic 25, 3) := by decide +kernel
theorem dX7_nearest_8 : decode cX7_nearest 8 = .ok (.ifCond .ne 6, 3) := by decide +kernel
theorem dX7_nearest_11 : decode cX7_nearest 11 = .ok (.ldc 51, 2) := by decide +kernel
theorem dX7_nearest_13 : decode cX7_nearest 13 = .ok (.ireturn, 1) := by decide +kernel
theorem dX7_nearest_14 : decode cX7_nearest 14 = .ok (.aload_n 0, 1) := by decide +kernel
theorem dX7_nearest_15 : decode cX7_nearest 15 = .ok (.getfield 7, 3) := by decide +kernel
theorem dX7_nearest_18 : decode cX7_nearest 18 = .ok (.iconst 1, 1) := by decide +kernel
theorem dX7_nearest_19 : decode cX7_nearest 19 = .ok (.iaload, 1) := by decide +kernel
theorem dX7_nearest_20 : decode cX7_nearest 20 = .ok (.ifCond .ne 8, 3) := by decide +kernel
theorem dX7_nearest_23 : decode cX7_nearest 23 = .ok (.ldc 70, 2) := by decide +kernel
theorem dX7_nearest_25 : decode cX7_nearest 25 = .ok (.goto 8, 3) := by decide +kernel
theorem dX7_nearest_28 : decode cX7_nearest 28 = .ok (.aload_n 0, 1) := by decide +kernel
theorem dX7_nearest_29 : decode cX7_nearest 29 = .ok (.iload_n 1, 1) := by decide +kernel
theorem dX7_nearest_30 : decode cX7_nearest 30 = .ok (.invokevirtual 71, 3) := by decide +kernel
theorem dX7_nearest_33 : decode cX7_nearest 33 = .ok (.ireturn, 1) := by decide +kernel
theorem dX7_canBe_0 : decode cX7_canBe 0 = .ok (.iload_n 0, 1) := by decide +kernel
theorem dX7_canBe_1 : decode cX7_canBe 1 = .ok (.ifCond .eq 8, 3) := by decide +kernel
theorem dX7_canBe_4 : decode cX7_canBe 4 = .ok (.iload_n 0, 1) := by decide +kernel
theorem dX7_canBe_5 : decode cX7_canBe 5 = .ok (.iconst 1, 1) := by decide +kernel
theorem dX7_canBe_6 : decode cX7_canBe 6 = .ok (.if_icmp .ne 14, 3) := by decide +kernel
theorem dX7_canBe_9 : decode cX7_canBe 9 = .ok (.iload_n 1, 1) := by decide +kernel
theorem dX7_canBe_10 : decode cX7_canBe 10 = .ok (.iconst 1, 1) := by decide +kernel
theorem dX7_canBe_11 : decode cX7_canBe 11 = .ok (.sipush 600, 3) := by decide +kernel
theorem dX7_canBe_14 : decode cX7_canBe 14 = .ok (.invokestatic 25, 3) := by decide +kernel
theorem dX7_canBe_17 : decode cX7_canBe 17 = .ok (.goto 38, 3) := by decide +kernel
theorem dX7_canBe_20 : decode cX7_canBe 20 = .ok (.iload_n 0, 1) := by decide +kernel
theorem dX7_canBe_21 : decode cX7_canBe 21 = .ok (.iconst 2, 1) := by decide +kernel
theorem dX7_canBe_22 : decode cX7_canBe 22 = .ok (.if_icmp .ne 14, 3) := by decide +kernel
theorem dX7_canBe_25 : decode cX7_canBe 25 = .ok (.iload_n 1, 1) := by decide +kernel
theorem dX7_canBe_26 : decode cX7_canBe 26 = .ok (.iconst 0, 1) := by decide +kernel
theorem dX7_canBe_27 : decode cX7_canBe 27 = .ok (.sipush 600, 3) := by decide +kernel
theorem dX7_canBe_30 : decode cX7_canBe 30 = .ok (.invokestatic 25, 3) := by decide +kernel
theorem dX7_canBe_33 : decode cX7_canBe 33 = .ok (.goto 22, 3) := by decide +kernel
theorem dX7_canBe_36 : decode cX7_canBe 36 = .ok (.iload_n 0, 1) := by decide +kernel
theorem dX7_canBe_37 : decode cX7_canBe 37 = .ok (.iconst 3, 1) := by decide +kernel
theorem dX7_canBe_38 : decode cX7_canBe 38 = .ok (.if_icmp .ne 16, 3) := by decide +kernel
theorem dX7_canBe_41 : decode cX7_canBe 41 = .ok (.iload_n 1, 1) := by decide +kernel
theorem dX7_canBe_42 : decode cX7_canBe 42 = .ok (.iconst 0, 1) := by decide +kernel
theorem dX7_canBe_43 : decode cX7_canBe 43 = .ok (.iconst 1, 1) := by decide +kernel
theorem dX7_canBe_44 : decode cX7_canBe 44 = .ok (.invokestatic 25, 3) := by decide +kernel
theorem dX7_canBe_47 : decode cX7_canBe 47 = .ok (.ifCond .eq 7, 3) := by decide +kernel
theorem dX7_canBe_50 : decode cX7_canBe 50 = .ok (.iconst 1, 1) := by decide +kernel
theorem dX7_canBe_51 : decode cX7_canBe 51 = .ok (.goto 4, 3) := by decide +kernel
theorem dX7_canBe_54 : decode cX7_canBe 54 = .ok (.iconst 0, 1) := by decide +kernel
theorem dX7_canBe_55 : decode cX7_canBe 55 = .ok (.ireturn, 1) := by decide +kernel
theorem dX7_set_0 : decode cX7_set 0 = .ok (.iload_n 1, 1) := by decide +kernel
theorem dX7_set_1 : decode cX7_set 1 = .ok (.iload_n 2, 1) := by decide +kernel
theorem dX7_set_2 : decode cX7_set 2 = .ok (.invokestatic 74, 3) := by decide +kernel
theorem dX7_set_5 : decode cX7_set 5 = .ok (.ifCond .ne 6, 3) := by decide +kernel
theorem dX7_set_8 : decode cX7_set 8 = .ok (.ldc 51, 2) := by decide +kernel
theorem dX7_set_10 : decode cX7_set 10 = .ok (.ireturn, 1) := by decide +kernel
theorem dX7_set_11 : decode cX7_set 11 = .ok (.aload_n 0, 1) := by decide +kernel
theorem dX7_set_12 : decode cX7_set 12 = .ok (.invokevirtual 53, 3) := by decide +kernel
theorem dX7_set_15 : decode cX7_set 15 = .ok (.aload_n 0, 1) := by decide +kernel
theorem dX7_set_16 : decode cX7_set 16 = .ok (.iload_n 1, 1) := by decide +kernel
theorem dX7_set_17 : decode cX7_set 17 = .ok (.invokevirtual 78, 3) := by decide +kernel
theorem dX7_set_20 : decode cX7_set 20 = .ok (.istore_n 3, 1) := by decide +kernel
theorem dX7_set_21 : decode cX7_set 21 = .ok (.aload_n 0, 1) := by decide +kernel
theorem dX7_set_22 : decode cX7_set 22 = .ok (.getfield 7, 3) := by decide +kernel
theorem dX7_set_25 : decode cX7_set 25 = .ok (.bipush 7, 2) := by decide +kernel
theorem dX7_set_27 : decode cX7_set 27 = .ok (.iload_n 1, 1) := by decide +kernel
theorem dX7_set_28 : decode cX7_set 28 = .ok (.iadd, 1) := by decide +kernel
theorem dX7_set_29 : decode cX7_set 29 = .ok (.iload_n 2, 1) := by decide +kernel
theorem dX7_set_30 : decode cX7_set 30 = .ok (.iastore, 1) := by decide +kernel
theorem dX7_set_31 : decode cX7_set 31 = .ok (.iload_n 3, 1) := by decide +kernel
theorem dX7_set_32 : decode cX7_set 32 = .ok (.ireturn, 1) := by decide +kernel
theorem dX7_water_0 : decode cX7_water 0 = .ok (.iconst 0, 1) := by decide +kernel
theorem dX7_water_1 : decode cX7_water 1 = .ok (.istore_n 1, 1) := by decide +kernel
theorem dX7_water_2 : decode cX7_water 2 = .ok (.iconst 0, 1) := by decide +kernel
theorem dX7_water_3 : decode cX7_water 3 = .ok (.istore_n 2, 1) := by decide +kernel
theorem dX7_water_4 : decode cX7_water 4 = .ok (.iload_n 2, 1) := by decide +kernel
theorem dX7_water_5 : decode cX7_water 5 = .ok (.aload_n 0, 1) := by decide +kernel
theorem dX7_water_6 : decode cX7_water 6 = .ok (.getfield 7, 3) := by decide +kernel
theorem dX7_water_9 : decode cX7_water 9 = .ok (.iconst 1, 1) := by decide +kernel
theorem dX7_water_10 : decode cX7_water 10 = .ok (.iaload, 1) := by decide +kernel
theorem dX7_water_11 : decode cX7_water 11 = .ok (.if_icmp .ge 18, 3) := by decide +kernel
theorem dX7_water_14 : decode cX7_water 14 = .ok (.iload_n 1, 1) := by decide +kernel
theorem dX7_water_15 : decode cX7_water 15 = .ok (.aload_n 0, 1) := by decide +kernel
theorem dX7_water_16 : decode cX7_water 16 = .ok (.iload_n 2, 1) := by decide +kernel
theorem dX7_water_17 : decode cX7_water 17 = .ok (.iconst 2, 1) := by decide +kernel
theorem dX7_water_18 : decode cX7_water 18 = .ok (.invokevirtual 34, 3) := by decide +kernel
theorem dX7_water_21 : decode cX7_water 21 = .ok (.iadd, 1) := by decide +kernel
theorem dX7_water_22 : decode cX7_water 22 = .ok (.istore_n 1, 1) := by decide +kernel
theorem dX7_water_23 : decode cX7_water 23 = .ok (.iinc 2 1, 3) := by decide +kernel
theorem dX7_water_26 : decode cX7_water 26 = .ok (.goto (-22), 3) := by decide +kernel
theorem dX7_water_29 : decode cX7_water 29 = .ok (.iload_n 1, 1) := by decide +kernel
theorem dX7_water_30 : decode cX7_water 30 = .ok (.ireturn, 1) := by decide +kernel
theorem dX7_notesThat_0 : decode cX7_notesThat 0 = .ok (.iconst 0, 1) := by decide +kernel
theorem dX7_notesThat_1 : decode cX7_notesThat 1 = .ok (.istore_n 2, 1) := by decide +kernel
theorem dX7_notesThat_2 : decode cX7_notesThat 2 = .ok (.iconst 0, 1) := by decide +kernel
theorem dX7_notesThat_3 : decode cX7_notesThat 3 = .ok (.istore_n 3, 1) := by decide +kernel
theorem dX7_notesThat_4 : decode cX7_notesThat 4 = .ok (.iload_n 3, 1) := by decide +kernel
theorem dX7_notesThat_5 : decode cX7_notesThat 5 = .ok (.aload_n 0, 1) := by decide +kernel
theorem dX7_notesThat_6 : decode cX7_notesThat 6 = .ok (.getfield 7, 3) := by decide +kernel
theorem dX7_notesThat_9 : decode cX7_notesThat 9 = .ok (.iconst 2, 1) := by decide +kernel
theorem dX7_notesThat_10 : decode cX7_notesThat 10 = .ok (.iaload, 1) := by decide +kernel
theorem dX7_notesThat_11 : decode cX7_notesThat 11 = .ok (.if_icmp .ge 85, 3) := by decide +kernel
theorem dX7_notesThat_14 : decode cX7_notesThat 14 = .ok (.aload_n 0, 1) := by decide +kernel
theorem dX7_notesThat_15 : decode cX7_notesThat 15 = .ok (.iload_n 3, 1) := by decide +kernel
theorem dX7_notesThat_16 : decode cX7_notesThat 16 = .ok (.iconst 2, 1) := by decide +kernel
theorem dX7_notesThat_17 : decode cX7_notesThat 17 = .ok (.invokevirtual 81, 3) := by decide +kernel
theorem dX7_notesThat_20 : decode cX7_notesThat 20 = .ok (.iconst 1, 1) := by decide +kernel
theorem dX7_notesThat_21 : decode cX7_notesThat 21 = .ok (.if_icmp .ne 7, 3) := by decide +kernel
theorem dX7_notesThat_24 : decode cX7_notesThat 24 = .ok (.iconst 1, 1) := by decide +kernel
theorem dX7_notesThat_25 : decode cX7_notesThat 25 = .ok (.goto 4, 3) := by decide +kernel
theorem dX7_notesThat_28 : decode cX7_notesThat 28 = .ok (.iconst 0, 1) := by decide +kernel
theorem dX7_notesThat_29 : decode cX7_notesThat 29 = .ok (.istore 4, 2) := by decide +kernel
theorem dX7_notesThat_31 : decode cX7_notesThat 31 = .ok (.iload_n 2, 1) := by decide +kernel
theorem dX7_notesThat_32 : decode cX7_notesThat 32 = .ok (.iload_n 1, 1) := by decide +kernel
theorem dX7_notesThat_33 : decode cX7_notesThat 33 = .ok (.iconst 4, 1) := by decide +kernel
theorem dX7_notesThat_34 : decode cX7_notesThat 34 = .ok (.if_icmp .ne 8, 3) := by decide +kernel
theorem dX7_notesThat_37 : decode cX7_notesThat 37 = .ok (.iload 4, 2) := by decide +kernel
theorem dX7_notesThat_39 : decode cX7_notesThat 39 = .ok (.ifCond .ne 44, 3) := by decide +kernel
theorem dX7_notesThat_42 : decode cX7_notesThat 42 = .ok (.iload_n 1, 1) := by decide +kernel
theorem dX7_notesThat_43 : decode cX7_notesThat 43 = .ok (.iconst 5, 1) := by decide +kernel
theorem dX7_notesThat_44 : decode cX7_notesThat 44 = .ok (.if_icmp .ne 18, 3) := by decide +kernel
theorem dX7_notesThat_47 : decode cX7_notesThat 47 = .ok (.iload 4, 2) := by decide +kernel
theorem dX7_notesThat_49 : decode cX7_notesThat 49 = .ok (.ifCond .eq 13, 3) := by decide +kernel
theorem dX7_notesThat_52 : decode cX7_notesThat 52 = .ok (.aload_n 0, 1) := by decide +kernel
theorem dX7_notesThat_53 : decode cX7_notesThat 53 = .ok (.iload_n 3, 1) := by decide +kernel
theorem dX7_notesThat_54 : decode cX7_notesThat 54 = .ok (.iconst 5, 1) := by decide +kernel
theorem dX7_notesThat_55 : decode cX7_notesThat 55 = .ok (.invokevirtual 81, 3) := by decide +kernel
theorem dX7_notesThat_58 : decode cX7_notesThat 58 = .ok (.iconst 1, 1) := by decide +kernel
theorem dX7_notesThat_59 : decode cX7_notesThat 59 = .ok (.if_icmp .eq 24, 3) := by decide +kernel
theorem dX7_notesThat_62 : decode cX7_notesThat 62 = .ok (.iload_n 1, 1) := by decide +kernel
theorem dX7_notesThat_63 : decode cX7_notesThat 63 = .ok (.bipush 6, 2) := by decide +kernel
theorem dX7_notesThat_65 : decode cX7_notesThat 65 = .ok (.if_icmp .ne 22, 3) := by decide +kernel
theorem dX7_notesThat_68 : decode cX7_notesThat 68 = .ok (.iload 4, 2) := by decide +kernel
theorem dX7_notesThat_70 : decode cX7_notesThat 70 = .ok (.ifCond .eq 17, 3) := by decide +kernel
theorem dX7_notesThat_73 : decode cX7_notesThat 73 = .ok (.aload_n 0, 1) := by decide +kernel
theorem dX7_notesThat_74 : decode cX7_notesThat 74 = .ok (.iload_n 3, 1) := by decide +kernel
theorem dX7_notesThat_75 : decode cX7_notesThat 75 = .ok (.iconst 3, 1) := by decide +kernel
theorem dX7_notesThat_76 : decode cX7_notesThat 76 = .ok (.invokevirtual 81, 3) := by decide +kernel
theorem dX7_notesThat_79 : decode cX7_notesThat 79 = .ok (.iconst (-1), 1) := by decide +kernel
theorem dX7_notesThat_80 : decode cX7_notesThat 80 = .ok (.if_icmp .ne 7, 3) := by decide +kernel
theorem dX7_notesThat_83 : decode cX7_notesThat 83 = .ok (.iconst 1, 1) := by decide +kernel
theorem dX7_notesThat_84 : decode cX7_notesThat 84 = .ok (.goto 4, 3) := by decide +kernel
theorem dX7_notesThat_87 : decode cX7_notesThat 87 = .ok (.iconst 0, 1) := by decide +kernel
theorem dX7_notesThat_88 : decode cX7_notesThat 88 = .ok (.iadd, 1) := by decide +kernel
theorem dX7_notesThat_89 : decode cX7_notesThat 89 = .ok (.istore_n 2, 1) := by decide +kernel
theorem dX7_notesThat_90 : decode cX7_notesThat 90 = .ok (.iinc 3 1, 3) := by decide +kernel
theorem dX7_notesThat_93 : decode cX7_notesThat 93 = .ok (.goto (-89), 3) := by decide +kernel
theorem dX7_notesThat_96 : decode cX7_notesThat 96 = .ok (.iload_n 2, 1) := by decide +kernel
theorem dX7_notesThat_97 : decode cX7_notesThat 97 = .ok (.ireturn, 1) := by decide +kernel
theorem dX7_count_0 : decode cX7_count 0 = .ok (.iload_n 1, 1) := by decide +kernel
theorem dX7_count_1 : decode cX7_count 1 = .ok (.tableswitch 204 0 24 #[115, 122, 129, 136, 164, 164, 164, 170, 175, 204, 204, 204, 204, 204, 204, 204, 204, 204, 204, 204, 180, 187, 192, 192, 192], 115) := by decide +kernel
theorem dX7_count_116 : decode cX7_count 116 = .ok (.aload_n 0, 1) := by decide +kernel
theorem dX7_count_117 : decode cX7_count 117 = .ok (.getfield 7, 3) := by decide +kernel
theorem dX7_count_120 : decode cX7_count 120 = .ok (.iconst 0, 1) := by decide +kernel
theorem dX7_count_121 : decode cX7_count 121 = .ok (.iaload, 1) := by decide +kernel
theorem dX7_count_122 : decode cX7_count 122 = .ok (.ireturn, 1) := by decide +kernel
theorem dX7_count_123 : decode cX7_count 123 = .ok (.aload_n 0, 1) := by decide +kernel
theorem dX7_count_124 : decode cX7_count 124 = .ok (.getfield 7, 3) := by decide +kernel
theorem dX7_count_127 : decode cX7_count 127 = .ok (.iconst 1, 1) := by decide +kernel
theorem dX7_count_128 : decode cX7_count 128 = .ok (.iaload, 1) := by decide +kernel
theorem dX7_count_129 : decode cX7_count 129 = .ok (.ireturn, 1) := by decide +kernel
theorem dX7_count_130 : decode cX7_count 130 = .ok (.aload_n 0, 1) := by decide +kernel
theorem dX7_count_131 : decode cX7_count 131 = .ok (.getfield 7, 3) := by decide +kernel
theorem dX7_count_134 : decode cX7_count 134 = .ok (.iconst 2, 1) := by decide +kernel
theorem dX7_count_135 : decode cX7_count 135 = .ok (.iaload, 1) := by decide +kernel
theorem dX7_count_136 : decode cX7_count 136 = .ok (.ireturn, 1) := by decide +kernel
theorem dX7_count_137 : decode cX7_count 137 = .ok (.aload_n 0, 1) := by decide +kernel
theorem dX7_count_138 : decode cX7_count 138 = .ok (.getfield 7, 3) := by decide +kernel
theorem dX7_count_141 : decode cX7_count 141 = .ok (.iconst 2, 1) := by decide +kernel
theorem dX7_count_142 : decode cX7_count 142 = .ok (.iaload, 1) := by decide +kernel
theorem dX7_count_143 : decode cX7_count 143 = .ok (.ifCond .ne 7, 3) := by decide +kernel
theorem dX7_count_146 : decode cX7_count 146 = .ok (.iconst 0, 1) := by decide +kernel
theorem dX7_count_147 : decode cX7_count 147 = .ok (.goto 17, 3) := by decide +kernel
theorem dX7_count_150 : decode cX7_count 150 = .ok (.aload_n 0, 1) := by decide +kernel
theorem dX7_count_151 : decode cX7_count 151 = .ok (.aload_n 0, 1) := by decide +kernel
theorem dX7_count_152 : decode cX7_count 152 = .ok (.getfield 7, 3) := by decide +kernel
theorem dX7_count_155 : decode cX7_count 155 = .ok (.iconst 2, 1) := by decide +kernel
theorem dX7_count_156 : decode cX7_count 156 = .ok (.iaload, 1) := by decide +kernel
theorem dX7_count_157 : decode cX7_count 157 = .ok (.iconst 1, 1) := by decide +kernel
theorem dX7_count_158 : decode cX7_count 158 = .ok (.isub, 1) := by decide +kernel
theorem dX7_count_159 : decode cX7_count 159 = .ok (.invokevirtual 84, 3) := by decide +kernel
theorem dX7_count_162 : decode cX7_count 162 = .ok (.iconst 1, 1) := by decide +kernel
theorem dX7_count_163 : decode cX7_count 163 = .ok (.iadd, 1) := by decide +kernel
theorem dX7_count_164 : decode cX7_count 164 = .ok (.ireturn, 1) := by decide +kernel
theorem dX7_count_165 : decode cX7_count 165 = .ok (.aload_n 0, 1) := by decide +kernel
theorem dX7_count_166 : decode cX7_count 166 = .ok (.iload_n 1, 1) := by decide +kernel
theorem dX7_count_167 : decode cX7_count 167 = .ok (.invokevirtual 87, 3) := by decide +kernel
theorem dX7_count_170 : decode cX7_count 170 = .ok (.ireturn, 1) := by decide +kernel
theorem dX7_count_171 : decode cX7_count 171 = .ok (.aload_n 0, 1) := by decide +kernel
theorem dX7_count_172 : decode cX7_count 172 = .ok (.getfield 29, 3) := by decide +kernel
theorem dX7_count_175 : decode cX7_count 175 = .ok (.ireturn, 1) := by decide +kernel
theorem dX7_count_176 : decode cX7_count 176 = .ok (.aload_n 0, 1) := by decide +kernel
theorem dX7_count_177 : decode cX7_count 177 = .ok (.getfield 90, 3) := by decide +kernel
theorem dX7_count_180 : decode cX7_count 180 = .ok (.ireturn, 1) := by decide +kernel
theorem dX7_count_181 : decode cX7_count 181 = .ok (.aload_n 0, 1) := by decide +kernel
theorem dX7_count_182 : decode cX7_count 182 = .ok (.getfield 7, 3) := by decide +kernel
theorem dX7_count_185 : decode cX7_count 185 = .ok (.iconst 3, 1) := by decide +kernel
theorem dX7_count_186 : decode cX7_count 186 = .ok (.iaload, 1) := by decide +kernel
theorem dX7_count_187 : decode cX7_count 187 = .ok (.ireturn, 1) := by decide +kernel
theorem dX7_count_188 : decode cX7_count 188 = .ok (.aload_n 0, 1) := by decide +kernel
theorem dX7_count_189 : decode cX7_count 189 = .ok (.invokevirtual 93, 3) := by decide +kernel
theorem dX7_count_192 : decode cX7_count 192 = .ok (.ireturn, 1) := by decide +kernel
theorem dX7_count_193 : decode cX7_count 193 = .ok (.aload_n 0, 1) := by decide +kernel
theorem dX7_count_194 : decode cX7_count 194 = .ok (.getfield 7, 3) := by decide +kernel
theorem dX7_count_197 : decode cX7_count 197 = .ok (.iconst 4, 1) := by decide +kernel
theorem dX7_count_198 : decode cX7_count 198 = .ok (.iload_n 1, 1) := by decide +kernel
theorem dX7_count_199 : decode cX7_count 199 = .ok (.iadd, 1) := by decide +kernel
theorem dX7_count_200 : decode cX7_count 200 = .ok (.bipush 22, 2) := by decide +kernel
theorem dX7_count_202 : decode cX7_count 202 = .ok (.isub, 1) := by decide +kernel
theorem dX7_count_203 : decode cX7_count 203 = .ok (.iaload, 1) := by decide +kernel
theorem dX7_count_204 : decode cX7_count 204 = .ok (.ireturn, 1) := by decide +kernel
theorem dX7_count_205 : decode cX7_count 205 = .ok (.iload_n 1, 1) := by decide +kernel
theorem dX7_count_206 : decode cX7_count 206 = .ok (.bipush 10, 2) := by decide +kernel
theorem dX7_count_208 : decode cX7_count 208 = .ok (.bipush 13, 2) := by decide +kernel
theorem dX7_count_210 : decode cX7_count 210 = .ok (.invokestatic 25, 3) := by decide +kernel
theorem dX7_count_213 : decode cX7_count 213 = .ok (.ifCond .eq 14, 3) := by decide +kernel
theorem dX7_count_216 : decode cX7_count 216 = .ok (.aload_n 0, 1) := by decide +kernel
theorem dX7_count_217 : decode cX7_count 217 = .ok (.iload_n 1, 1) := by decide +kernel
theorem dX7_count_218 : decode cX7_count 218 = .ok (.bipush 10, 2) := by decide +kernel
theorem dX7_count_220 : decode cX7_count 220 = .ok (.isub, 1) := by decide +kernel
theorem dX7_count_221 : decode cX7_count 221 = .ok (.invokevirtual 78, 3) := by decide +kernel
theorem dX7_count_224 : decode cX7_count 224 = .ok (.goto 5, 3) := by decide +kernel
theorem dX7_count_227 : decode cX7_count 227 = .ok (.ldc 51, 2) := by decide +kernel
theorem dX7_count_229 : decode cX7_count 229 = .ok (.ireturn, 1) := by decide +kernel
theorem dX7_begins_0 : decode cX7_begins 0 = .ok (.iload_n 1, 1) := by decide +kernel
theorem dX7_begins_1 : decode cX7_begins 1 = .ok (.ifCond .eq 26, 3) := by decide +kernel
theorem dX7_begins_4 : decode cX7_begins 4 = .ok (.aload_n 0, 1) := by decide +kernel
theorem dX7_begins_5 : decode cX7_begins 5 = .ok (.iload_n 1, 1) := by decide +kernel
theorem dX7_begins_6 : decode cX7_begins 6 = .ok (.iconst 0, 1) := by decide +kernel
theorem dX7_begins_7 : decode cX7_begins 7 = .ok (.invokevirtual 81, 3) := by decide +kernel
theorem dX7_begins_10 : decode cX7_begins 10 = .ok (.aload_n 0, 1) := by decide +kernel
theorem dX7_begins_11 : decode cX7_begins 11 = .ok (.iload_n 1, 1) := by decide +kernel
theorem dX7_begins_12 : decode cX7_begins 12 = .ok (.iconst 1, 1) := by decide +kernel
theorem dX7_begins_13 : decode cX7_begins 13 = .ok (.isub, 1) := by decide +kernel
theorem dX7_begins_14 : decode cX7_begins 14 = .ok (.iconst 0, 1) := by decide +kernel
theorem dX7_begins_15 : decode cX7_begins 15 = .ok (.invokevirtual 81, 3) := by decide +kernel
theorem dX7_begins_18 : decode cX7_begins 18 = .ok (.isub, 1) := by decide +kernel
theorem dX7_begins_19 : decode cX7_begins 19 = .ok (.aload_n 0, 1) := by decide +kernel
theorem dX7_begins_20 : decode cX7_begins 20 = .ok (.iconst 1, 1) := by decide +kernel
theorem dX7_begins_21 : decode cX7_begins 21 = .ok (.invokevirtual 78, 3) := by decide +kernel
theorem dX7_begins_24 : decode cX7_begins 24 = .ok (.if_icmp .lt 7, 3) := by decide +kernel
theorem dX7_begins_27 : decode cX7_begins 27 = .ok (.iconst 1, 1) := by decide +kernel
theorem dX7_begins_28 : decode cX7_begins 28 = .ok (.goto 4, 3) := by decide +kernel
theorem dX7_begins_31 : decode cX7_begins 31 = .ok (.iconst 0, 1) := by decide +kernel
theorem dX7_begins_32 : decode cX7_begins 32 = .ok (.ireturn, 1) := by decide +kernel
theorem dX7_phraseOf_0 : decode cX7_phraseOf 0 = .ok (.iconst 0, 1) := by decide +kernel
theorem dX7_phraseOf_1 : decode cX7_phraseOf 1 = .ok (.istore_n 2, 1) := by decide +kernel
theorem dX7_phraseOf_2 : decode cX7_phraseOf 2 = .ok (.iconst 0, 1) := by decide +kernel
theorem dX7_phraseOf_3 : decode cX7_phraseOf 3 = .ok (.istore_n 3, 1) := by decide +kernel
theorem dX7_phraseOf_4 : decode cX7_phraseOf 4 = .ok (.iload_n 3, 1) := by decide +kernel
theorem dX7_phraseOf_5 : decode cX7_phraseOf 5 = .ok (.iload_n 1, 1) := by decide +kernel
theorem dX7_phraseOf_6 : decode cX7_phraseOf 6 = .ok (.if_icmp .gt 25, 3) := by decide +kernel
theorem dX7_phraseOf_9 : decode cX7_phraseOf 9 = .ok (.iload_n 2, 1) := by decide +kernel
theorem dX7_phraseOf_10 : decode cX7_phraseOf 10 = .ok (.aload_n 0, 1) := by decide +kernel
theorem dX7_phraseOf_11 : decode cX7_phraseOf 11 = .ok (.iload_n 3, 1) := by decide +kernel
theorem dX7_phraseOf_12 : decode cX7_phraseOf 12 = .ok (.invokevirtual 97, 3) := by decide +kernel
theorem dX7_phraseOf_15 : decode cX7_phraseOf 15 = .ok (.ifCond .eq 7, 3) := by decide +kernel
theorem dX7_phraseOf_18 : decode cX7_phraseOf 18 = .ok (.iconst 1, 1) := by decide +kernel
theorem dX7_phraseOf_19 : decode cX7_phraseOf 19 = .ok (.goto 4, 3) := by decide +kernel
theorem dX7_phraseOf_22 : decode cX7_phraseOf 22 = .ok (.iconst 0, 1) := by decide +kernel
theorem dX7_phraseOf_23 : decode cX7_phraseOf 23 = .ok (.iadd, 1) := by decide +kernel
theorem dX7_phraseOf_24 : decode cX7_phraseOf 24 = .ok (.istore_n 2, 1) := by decide +kernel
theorem dX7_phraseOf_25 : decode cX7_phraseOf 25 = .ok (.iinc 3 1, 3) := by decide +kernel
theorem dX7_phraseOf_28 : decode cX7_phraseOf 28 = .ok (.goto (-24), 3) := by decide +kernel
theorem dX7_phraseOf_31 : decode cX7_phraseOf 31 = .ok (.iload_n 2, 1) := by decide +kernel
theorem dX7_phraseOf_32 : decode cX7_phraseOf 32 = .ok (.iconst 1, 1) := by decide +kernel
theorem dX7_phraseOf_33 : decode cX7_phraseOf 33 = .ok (.isub, 1) := by decide +kernel
theorem dX7_phraseOf_34 : decode cX7_phraseOf 34 = .ok (.ireturn, 1) := by decide +kernel
theorem dX7_noteAt_0 : decode cX7_noteAt 0 = .ok (.iconst 0, 1) := by decide +kernel
theorem dX7_noteAt_1 : decode cX7_noteAt 1 = .ok (.istore_n 2, 1) := by decide +kernel
theorem dX7_noteAt_2 : decode cX7_noteAt 2 = .ok (.iload_n 2, 1) := by decide +kernel
theorem dX7_noteAt_3 : decode cX7_noteAt 3 = .ok (.aload_n 0, 1) := by decide +kernel
theorem dX7_noteAt_4 : decode cX7_noteAt 4 = .ok (.getfield 7, 3) := by decide +kernel
theorem dX7_noteAt_7 : decode cX7_noteAt 7 = .ok (.iconst 2, 1) := by decide +kernel
theorem dX7_noteAt_8 : decode cX7_noteAt 8 = .ok (.iaload, 1) := by decide +kernel
theorem dX7_noteAt_9 : decode cX7_noteAt 9 = .ok (.if_icmp .ge 21, 3) := by decide +kernel
theorem dX7_noteAt_12 : decode cX7_noteAt 12 = .ok (.aload_n 0, 1) := by decide +kernel
theorem dX7_noteAt_13 : decode cX7_noteAt 13 = .ok (.iload_n 2, 1) := by decide +kernel
theorem dX7_noteAt_14 : decode cX7_noteAt 14 = .ok (.iconst 0, 1) := by decide +kernel
theorem dX7_noteAt_15 : decode cX7_noteAt 15 = .ok (.invokevirtual 81, 3) := by decide +kernel
theorem dX7_noteAt_18 : decode cX7_noteAt 18 = .ok (.iload_n 1, 1) := by decide +kernel
theorem dX7_noteAt_19 : decode cX7_noteAt 19 = .ok (.if_icmp .ne 5, 3) := by decide +kernel
theorem dX7_noteAt_22 : decode cX7_noteAt 22 = .ok (.iload_n 2, 1) := by decide +kernel
theorem dX7_noteAt_23 : decode cX7_noteAt 23 = .ok (.ireturn, 1) := by decide +kernel
theorem dX7_noteAt_24 : decode cX7_noteAt 24 = .ok (.iinc 2 1, 3) := by decide +kernel
theorem dX7_noteAt_27 : decode cX7_noteAt 27 = .ok (.goto (-25), 3) := by decide +kernel
theorem dX7_noteAt_30 : decode cX7_noteAt 30 = .ok (.iconst (-1), 1) := by decide +kernel
theorem dX7_noteAt_31 : decode cX7_noteAt 31 = .ok (.ireturn, 1) := by decide +kernel
theorem dX7_newNote_0 : decode cX7_newNote 0 = .ok (.aload_n 0, 1) := by decide +kernel
theorem dX7_newNote_1 : decode cX7_newNote 1 = .ok (.getfield 7, 3) := by decide +kernel
theorem dX7_newNote_4 : decode cX7_newNote 4 = .ok (.iconst 2, 1) := by decide +kernel
theorem dX7_newNote_5 : decode cX7_newNote 5 = .ok (.iaload, 1) := by decide +kernel
theorem dX7_newNote_6 : decode cX7_newNote 6 = .ok (.istore_n 3, 1) := by decide +kernel
theorem dX7_newNote_7 : decode cX7_newNote 7 = .ok (.iload_n 3, 1) := by decide +kernel
theorem dX7_newNote_8 : decode cX7_newNote 8 = .ok (.ifCond .le 53, 3) := by decide +kernel
theorem dX7_newNote_11 : decode cX7_newNote 11 = .ok (.aload_n 0, 1) := by decide +kernel
theorem dX7_newNote_12 : decode cX7_newNote 12 = .ok (.iload_n 3, 1) := by decide +kernel
theorem dX7_newNote_13 : decode cX7_newNote 13 = .ok (.iconst 1, 1) := by decide +kernel
theorem dX7_newNote_14 : decode cX7_newNote 14 = .ok (.isub, 1) := by decide +kernel
theorem dX7_newNote_15 : decode cX7_newNote 15 = .ok (.iconst 0, 1) := by decide +kernel
theorem dX7_newNote_16 : decode cX7_newNote 16 = .ok (.invokevirtual 81, 3) := by decide +kernel
theorem dX7_newNote_19 : decode cX7_newNote 19 = .ok (.iload_n 1, 1) := by decide +kernel
theorem dX7_newNote_20 : decode cX7_newNote 20 = .ok (.if_icmp .le 41, 3) := by decide +kernel
theorem dX7_newNote_23 : decode cX7_newNote 23 = .ok (.iconst 0, 1) := by decide +kernel
theorem dX7_newNote_24 : decode cX7_newNote 24 = .ok (.istore 4, 2) := by decide +kernel
theorem dX7_newNote_26 : decode cX7_newNote 26 = .ok (.iload 4, 2) := by decide +kernel
theorem dX7_newNote_28 : decode cX7_newNote 28 = .ok (.bipush 6, 2) := by decide +kernel
theorem dX7_newNote_30 : decode cX7_newNote 30 = .ok (.if_icmp .ge 25, 3) := by decide +kernel
theorem dX7_newNote_33 : decode cX7_newNote 33 = .ok (.aload_n 0, 1) := by decide +kernel
theorem dX7_newNote_34 : decode cX7_newNote 34 = .ok (.iload_n 3, 1) := by decide +kernel
theorem dX7_newNote_35 : decode cX7_newNote 35 = .ok (.iload 4, 2) := by decide +kernel
theorem dX7_newNote_37 : decode cX7_newNote 37 = .ok (.aload_n 0, 1) := by decide +kernel
theorem dX7_newNote_38 : decode cX7_newNote 38 = .ok (.iload_n 3, 1) := by decide +kernel
theorem dX7_newNote_39 : decode cX7_newNote 39 = .ok (.iconst 1, 1) := by decide +kernel
theorem dX7_newNote_40 : decode cX7_newNote 40 = .ok (.isub, 1) := by decide +kernel
theorem dX7_newNote_41 : decode cX7_newNote 41 = .ok (.iload 4, 2) := by decide +kernel
theorem dX7_newNote_43 : decode cX7_newNote 43 = .ok (.invokevirtual 81, 3) := by decide +kernel
theorem dX7_newNote_46 : decode cX7_newNote 46 = .ok (.invokevirtual 100, 3) := by decide +kernel
theorem dX7_newNote_49 : decode cX7_newNote 49 = .ok (.iinc 4 1, 3) := by decide +kernel
theorem dX7_newNote_52 : decode cX7_newNote 52 = .ok (.goto (-26), 3) := by decide +kernel
theorem dX7_newNote_55 : decode cX7_newNote 55 = .ok (.iinc 3 (-1), 3) := by decide +kernel
theorem dX7_newNote_58 : decode cX7_newNote 58 = .ok (.goto (-51), 3) := by decide +kernel
theorem dX7_newNote_61 : decode cX7_newNote 61 = .ok (.aload_n 0, 1) := by decide +kernel
theorem dX7_newNote_62 : decode cX7_newNote 62 = .ok (.iload_n 3, 1) := by decide +kernel
theorem dX7_newNote_63 : decode cX7_newNote 63 = .ok (.iconst 0, 1) := by decide +kernel
theorem dX7_newNote_64 : decode cX7_newNote 64 = .ok (.iload_n 1, 1) := by decide +kernel
theorem dX7_newNote_65 : decode cX7_newNote 65 = .ok (.invokevirtual 100, 3) := by decide +kernel
theorem dX7_newNote_68 : decode cX7_newNote 68 = .ok (.aload_n 0, 1) := by decide +kernel
theorem dX7_newNote_69 : decode cX7_newNote 69 = .ok (.iload_n 3, 1) := by decide +kernel
theorem dX7_newNote_70 : decode cX7_newNote 70 = .ok (.iconst 1, 1) := by decide +kernel
theorem dX7_newNote_71 : decode cX7_newNote 71 = .ok (.iload_n 2, 1) := by decide +kernel
theorem dX7_newNote_72 : decode cX7_newNote 72 = .ok (.invokevirtual 100, 3) := by decide +kernel
theorem dX7_newNote_75 : decode cX7_newNote 75 = .ok (.aload_n 0, 1) := by decide +kernel
theorem dX7_newNote_76 : decode cX7_newNote 76 = .ok (.iload_n 3, 1) := by decide +kernel
theorem dX7_newNote_77 : decode cX7_newNote 77 = .ok (.iconst 2, 1) := by decide +kernel
theorem dX7_newNote_78 : decode cX7_newNote 78 = .ok (.iconst 0, 1) := by decide +kernel
theorem dX7_newNote_79 : decode cX7_newNote 79 = .ok (.invokevirtual 100, 3) := by decide +kernel
theorem dX7_newNote_82 : decode cX7_newNote 82 = .ok (.aload_n 0, 1) := by decide +kernel
theorem dX7_newNote_83 : decode cX7_newNote 83 = .ok (.iload_n 3, 1) := by decide +kernel
theorem dX7_newNote_84 : decode cX7_newNote 84 = .ok (.iconst 3, 1) := by decide +kernel
theorem dX7_newNote_85 : decode cX7_newNote 85 = .ok (.iconst (-1), 1) := by decide +kernel
theorem dX7_newNote_86 : decode cX7_newNote 86 = .ok (.invokevirtual 100, 3) := by decide +kernel
theorem dX7_newNote_89 : decode cX7_newNote 89 = .ok (.aload_n 0, 1) := by decide +kernel
theorem dX7_newNote_90 : decode cX7_newNote 90 = .ok (.iload_n 3, 1) := by decide +kernel
theorem dX7_newNote_91 : decode cX7_newNote 91 = .ok (.iconst 4, 1) := by decide +kernel
theorem dX7_newNote_92 : decode cX7_newNote 92 = .ok (.iconst 0, 1) := by decide +kernel
theorem dX7_newNote_93 : decode cX7_newNote 93 = .ok (.invokevirtual 100, 3) := by decide +kernel
theorem dX7_newNote_96 : decode cX7_newNote 96 = .ok (.aload_n 0, 1) := by decide +kernel
theorem dX7_newNote_97 : decode cX7_newNote 97 = .ok (.iload_n 3, 1) := by decide +kernel
theorem dX7_newNote_98 : decode cX7_newNote 98 = .ok (.iconst 5, 1) := by decide +kernel
theorem dX7_newNote_99 : decode cX7_newNote 99 = .ok (.iconst 0, 1) := by decide +kernel
theorem dX7_newNote_100 : decode cX7_newNote 100 = .ok (.invokevirtual 100, 3) := by decide +kernel
theorem dX7_newNote_103 : decode cX7_newNote 103 = .ok (.aload_n 0, 1) := by decide +kernel
theorem dX7_newNote_104 : decode cX7_newNote 104 = .ok (.getfield 7, 3) := by decide +kernel
theorem dX7_newNote_107 : decode cX7_newNote 107 = .ok (.iconst 2, 1) := by decide +kernel
theorem dX7_newNote_108 : decode cX7_newNote 108 = .ok (.dup2, 1) := by decide +kernel
theorem dX7_newNote_109 : decode cX7_newNote 109 = .ok (.iaload, 1) := by decide +kernel
theorem dX7_newNote_110 : decode cX7_newNote 110 = .ok (.iconst 1, 1) := by decide +kernel
theorem dX7_newNote_111 : decode cX7_newNote 111 = .ok (.iadd, 1) := by decide +kernel
theorem dX7_newNote_112 : decode cX7_newNote 112 = .ok (.iastore, 1) := by decide +kernel
theorem dX7_newNote_113 : decode cX7_newNote 113 = .ok (.iload_n 3, 1) := by decide +kernel
theorem dX7_newNote_114 : decode cX7_newNote 114 = .ok (.ireturn, 1) := by decide +kernel
theorem dX7_note_0 : decode cX7_note 0 = .ok (.iload_n 1, 1) := by decide +kernel
theorem dX7_note_1 : decode cX7_note 1 = .ok (.iconst 0, 1) := by decide +kernel
theorem dX7_note_2 : decode cX7_note 2 = .ok (.sipush 3600, 3) := by decide +kernel
theorem dX7_note_5 : decode cX7_note 5 = .ok (.invokestatic 25, 3) := by decide +kernel
theorem dX7_note_8 : decode cX7_note 8 = .ok (.ifCond .eq 14, 3) := by decide +kernel
theorem dX7_note_11 : decode cX7_note 11 = .ok (.iload_n 2, 1) := by decide +kernel
theorem dX7_note_12 : decode cX7_note 12 = .ok (.iconst 0, 1) := by decide +kernel
theorem dX7_note_13 : decode cX7_note 13 = .ok (.sipush 6000, 3) := by decide +kernel
theorem dX7_note_16 : decode cX7_note 16 = .ok (.invokestatic 25, 3) := by decide +kernel
theorem dX7_note_19 : decode cX7_note 19 = .ok (.ifCond .ne 6, 3) := by decide +kernel
theorem dX7_note_22 : decode cX7_note 22 = .ok (.ldc 51, 2) := by decide +kernel
theorem dX7_note_24 : decode cX7_note 24 = .ok (.ireturn, 1) := by decide +kernel
theorem dX7_note_25 : decode cX7_note 25 = .ok (.aload_n 0, 1) := by decide +kernel
theorem dX7_note_26 : decode cX7_note 26 = .ok (.iload_n 1, 1) := by decide +kernel
theorem dX7_note_27 : decode cX7_note 27 = .ok (.invokevirtual 103, 3) := by decide +kernel
theorem dX7_note_30 : decode cX7_note 30 = .ok (.ifCond .lt 6, 3) := by decide +kernel
theorem dX7_note_33 : decode cX7_note 33 = .ok (.ldc 33, 2) := by decide +kernel
theorem dX7_note_35 : decode cX7_note 35 = .ok (.ireturn, 1) := by decide +kernel
theorem dX7_note_36 : decode cX7_note 36 = .ok (.aload_n 0, 1) := by decide +kernel
theorem dX7_note_37 : decode cX7_note 37 = .ok (.getfield 7, 3) := by decide +kernel
theorem dX7_note_40 : decode cX7_note 40 = .ok (.iconst 2, 1) := by decide +kernel
theorem dX7_note_41 : decode cX7_note 41 = .ok (.iaload, 1) := by decide +kernel
theorem dX7_note_42 : decode cX7_note 42 = .ok (.bipush 40, 2) := by decide +kernel
theorem dX7_note_44 : decode cX7_note 44 = .ok (.if_icmp .ne 6, 3) := by decide +kernel
theorem dX7_note_47 : decode cX7_note 47 = .ok (.ldc 52, 2) := by decide +kernel
theorem dX7_note_49 : decode cX7_note 49 = .ok (.ireturn, 1) := by decide +kernel
theorem dX7_note_50 : decode cX7_note 50 = .ok (.aload_n 0, 1) := by decide +kernel
theorem dX7_note_51 : decode cX7_note 51 = .ok (.invokevirtual 53, 3) := by decide +kernel
theorem dX7_note_54 : decode cX7_note 54 = .ok (.aload_n 0, 1) := by decide +kernel
theorem dX7_note_55 : decode cX7_note 55 = .ok (.iload_n 1, 1) := by decide +kernel
theorem dX7_note_56 : decode cX7_note 56 = .ok (.iload_n 2, 1) := by decide +kernel
theorem dX7_note_57 : decode cX7_note 57 = .ok (.invokevirtual 106, 3) := by decide +kernel
theorem dX7_note_60 : decode cX7_note 60 = .ok (.ireturn, 1) := by decide +kernel
theorem dX7_drop_0 : decode cX7_drop 0 = .ok (.aload_n 0, 1) := by decide +kernel
theorem dX7_drop_1 : decode cX7_drop 1 = .ok (.iload_n 1, 1) := by decide +kernel
theorem dX7_drop_2 : decode cX7_drop 2 = .ok (.invokevirtual 109, 3) := by decide +kernel
theorem dX7_drop_5 : decode cX7_drop 5 = .ok (.ifCond .ne 6, 3) := by decide +kernel
theorem dX7_drop_8 : decode cX7_drop 8 = .ok (.ldc 51, 2) := by decide +kernel
theorem dX7_drop_10 : decode cX7_drop 10 = .ok (.ireturn, 1) := by decide +kernel
theorem dX7_drop_11 : decode cX7_drop 11 = .ok (.aload_n 0, 1) := by decide +kernel
theorem dX7_drop_12 : decode cX7_drop 12 = .ok (.invokevirtual 53, 3) := by decide +kernel
theorem dX7_drop_15 : decode cX7_drop 15 = .ok (.aload_n 0, 1) := by decide +kernel
theorem dX7_drop_16 : decode cX7_drop 16 = .ok (.getfield 7, 3) := by decide +kernel
theorem dX7_drop_19 : decode cX7_drop 19 = .ok (.iconst 2, 1) := by decide +kernel
theorem dX7_drop_20 : decode cX7_drop 20 = .ok (.dup2, 1) := by decide +kernel
theorem dX7_drop_21 : decode cX7_drop 21 = .ok (.iaload, 1) := by decide +kernel
theorem dX7_drop_22 : decode cX7_drop 22 = .ok (.iconst 1, 1) := by decide +kernel
theorem dX7_drop_23 : decode cX7_drop 23 = .ok (.isub, 1) := by decide +kernel
theorem dX7_drop_24 : decode cX7_drop 24 = .ok (.iastore, 1) := by decide +kernel
theorem dX7_drop_25 : decode cX7_drop 25 = .ok (.bipush 61, 2) := by decide +kernel
theorem dX7_drop_27 : decode cX7_drop 27 = .ok (.bipush 6, 2) := by decide +kernel
theorem dX7_drop_29 : decode cX7_drop 29 = .ok (.iload_n 1, 1) := by decide +kernel
theorem dX7_drop_30 : decode cX7_drop 30 = .ok (.imul, 1) := by decide +kernel
theorem dX7_drop_31 : decode cX7_drop 31 = .ok (.iadd, 1) := by decide +kernel
theorem dX7_drop_32 : decode cX7_drop 32 = .ok (.istore_n 2, 1) := by decide +kernel
theorem dX7_drop_33 : decode cX7_drop 33 = .ok (.iload_n 2, 1) := by decide +kernel
theorem dX7_drop_34 : decode cX7_drop 34 = .ok (.bipush 61, 2) := by decide +kernel
theorem dX7_drop_36 : decode cX7_drop 36 = .ok (.bipush 6, 2) := by decide +kernel
theorem dX7_drop_38 : decode cX7_drop 38 = .ok (.aload_n 0, 1) := by decide +kernel
theorem dX7_drop_39 : decode cX7_drop 39 = .ok (.getfield 7, 3) := by decide +kernel
theorem dX7_drop_42 : decode cX7_drop 42 = .ok (.iconst 2, 1) := by decide +kernel
theorem dX7_drop_43 : decode cX7_drop 43 = .ok (.iaload, 1) := by decide +kernel
theorem dX7_drop_44 : decode cX7_drop 44 = .ok (.imul, 1) := by decide +kernel
theorem dX7_drop_45 : decode cX7_drop 45 = .ok (.iadd, 1) := by decide +kernel
theorem dX7_drop_46 : decode cX7_drop 46 = .ok (.if_icmp .ge 24, 3) := by decide +kernel
theorem dX7_drop_49 : decode cX7_drop 49 = .ok (.aload_n 0, 1) := by decide +kernel
theorem dX7_drop_50 : decode cX7_drop 50 = .ok (.getfield 7, 3) := by decide +kernel
theorem dX7_drop_53 : decode cX7_drop 53 = .ok (.iload_n 2, 1) := by decide +kernel
theorem dX7_drop_54 : decode cX7_drop 54 = .ok (.aload_n 0, 1) := by decide +kernel
theorem dX7_drop_55 : decode cX7_drop 55 = .ok (.getfield 7, 3) := by decide +kernel
theorem dX7_drop_58 : decode cX7_drop 58 = .ok (.iload_n 2, 1) := by decide +kernel
theorem dX7_drop_59 : decode cX7_drop 59 = .ok (.bipush 6, 2) := by decide +kernel
theorem dX7_drop_61 : decode cX7_drop 61 = .ok (.iadd, 1) := by decide +kernel
theorem dX7_drop_62 : decode cX7_drop 62 = .ok (.iaload, 1) := by decide +kernel
theorem dX7_drop_63 : decode cX7_drop 63 = .ok (.iastore, 1) := by decide +kernel
theorem dX7_drop_64 : decode cX7_drop 64 = .ok (.iinc 2 1, 3) := by decide +kernel
theorem dX7_drop_67 : decode cX7_drop 67 = .ok (.goto (-34), 3) := by decide +kernel
theorem dX7_drop_70 : decode cX7_drop 70 = .ok (.aload_n 0, 1) := by decide +kernel
theorem dX7_drop_71 : decode cX7_drop 71 = .ok (.getfield 7, 3) := by decide +kernel
theorem dX7_drop_74 : decode cX7_drop 74 = .ok (.iconst 2, 1) := by decide +kernel
theorem dX7_drop_75 : decode cX7_drop 75 = .ok (.iaload, 1) := by decide +kernel
theorem dX7_drop_76 : decode cX7_drop 76 = .ok (.ireturn, 1) := by decide +kernel
theorem dX7_transpose_0 : decode cX7_transpose 0 = .ok (.aload_n 0, 1) := by decide +kernel
theorem dX7_transpose_1 : decode cX7_transpose 1 = .ok (.iload_n 1, 1) := by decide +kernel
theorem dX7_transpose_2 : decode cX7_transpose 2 = .ok (.invokevirtual 109, 3) := by decide +kernel
theorem dX7_transpose_5 : decode cX7_transpose 5 = .ok (.ifCond .eq 33, 3) := by decide +kernel
theorem dX7_transpose_8 : decode cX7_transpose 8 = .ok (.aload_n 0, 1) := by decide +kernel
theorem dX7_transpose_9 : decode cX7_transpose 9 = .ok (.iload_n 2, 1) := by decide +kernel
theorem dX7_transpose_10 : decode cX7_transpose 10 = .ok (.invokevirtual 109, 3) := by decide +kernel
theorem dX7_transpose_13 : decode cX7_transpose 13 = .ok (.ifCond .eq 25, 3) := by decide +kernel
theorem dX7_transpose_16 : decode cX7_transpose 16 = .ok (.iload_n 2, 1) := by decide +kernel
theorem dX7_transpose_17 : decode cX7_transpose 17 = .ok (.iload_n 1, 1) := by decide +kernel
theorem dX7_transpose_18 : decode cX7_transpose 18 = .ok (.if_icmp .lt 20, 3) := by decide +kernel
theorem dX7_transpose_21 : decode cX7_transpose 21 = .ok (.iload_n 3, 1) := by decide +kernel
theorem dX7_transpose_22 : decode cX7_transpose 22 = .ok (.ifCond .eq 16, 3) := by decide +kernel
theorem dX7_transpose_25 : decode cX7_transpose 25 = .ok (.iload_n 3, 1) := by decide +kernel
theorem dX7_transpose_26 : decode cX7_transpose 26 = .ok (.sipush (-6000), 3) := by decide +kernel
theorem dX7_transpose_29 : decode cX7_transpose 29 = .ok (.sipush 6000, 3) := by decide +kernel
theorem dX7_transpose_32 : decode cX7_transpose 32 = .ok (.invokestatic 25, 3) := by decide +kernel
theorem dX7_transpose_35 : decode cX7_transpose 35 = .ok (.ifCond .ne 6, 3) := by decide +kernel
theorem dX7_transpose_38 : decode cX7_transpose 38 = .ok (.ldc 51, 2) := by decide +kernel
theorem dX7_transpose_40 : decode cX7_transpose 40 = .ok (.ireturn, 1) := by decide +kernel
theorem dX7_transpose_41 : decode cX7_transpose 41 = .ok (.iload_n 1, 1) := by decide +kernel
theorem dX7_transpose_42 : decode cX7_transpose 42 = .ok (.istore 4, 2) := by decide +kernel
theorem dX7_transpose_44 : decode cX7_transpose 44 = .ok (.iload 4, 2) := by decide +kernel
theorem dX7_transpose_46 : decode cX7_transpose 46 = .ok (.iload_n 2, 1) := by decide +kernel
theorem dX7_transpose_47 : decode cX7_transpose 47 = .ok (.if_icmp .gt 31, 3) := by decide +kernel
theorem dX7_transpose_50 : decode cX7_transpose 50 = .ok (.aload_n 0, 1) := by decide +kernel
theorem dX7_transpose_51 : decode cX7_transpose 51 = .ok (.iload 4, 2) := by decide +kernel
theorem dX7_transpose_53 : decode cX7_transpose 53 = .ok (.iconst 1, 1) := by decide +kernel
theorem dX7_transpose_54 : decode cX7_transpose 54 = .ok (.invokevirtual 81, 3) := by decide +kernel
theorem dX7_transpose_57 : decode cX7_transpose 57 = .ok (.iload_n 3, 1) := by decide +kernel
theorem dX7_transpose_58 : decode cX7_transpose 58 = .ok (.iadd, 1) := by decide +kernel
theorem dX7_transpose_59 : decode cX7_transpose 59 = .ok (.iconst 0, 1) := by decide +kernel
theorem dX7_transpose_60 : decode cX7_transpose 60 = .ok (.sipush 6000, 3) := by decide +kernel
theorem dX7_transpose_63 : decode cX7_transpose 63 = .ok (.invokestatic 25, 3) := by decide +kernel
theorem dX7_transpose_66 : decode cX7_transpose 66 = .ok (.ifCond .ne 6, 3) := by decide +kernel
theorem dX7_transpose_69 : decode cX7_transpose 69 = .ok (.ldc 33, 2) := by decide +kernel
theorem dX7_transpose_71 : decode cX7_transpose 71 = .ok (.ireturn, 1) := by decide +kernel
theorem dX7_transpose_72 : decode cX7_transpose 72 = .ok (.iinc 4 1, 3) := by decide +kernel
theorem dX7_transpose_75 : decode cX7_transpose 75 = .ok (.goto (-31), 3) := by decide +kernel
theorem dX7_transpose_78 : decode cX7_transpose 78 = .ok (.aload_n 0, 1) := by decide +kernel
theorem dX7_transpose_79 : decode cX7_transpose 79 = .ok (.invokevirtual 53, 3) := by decide +kernel
theorem dX7_transpose_82 : decode cX7_transpose 82 = .ok (.iload_n 1, 1) := by decide +kernel
theorem dX7_transpose_83 : decode cX7_transpose 83 = .ok (.istore 4, 2) := by decide +kernel
theorem dX7_transpose_85 : decode cX7_transpose 85 = .ok (.iload 4, 2) := by decide +kernel
theorem dX7_transpose_87 : decode cX7_transpose 87 = .ok (.iload_n 2, 1) := by decide +kernel
theorem dX7_transpose_88 : decode cX7_transpose 88 = .ok (.if_icmp .gt 25, 3) := by decide +kernel
theorem dX7_transpose_91 : decode cX7_transpose 91 = .ok (.aload_n 0, 1) := by decide +kernel
theorem dX7_transpose_92 : decode cX7_transpose 92 = .ok (.iload 4, 2) := by decide +kernel
theorem dX7_transpose_94 : decode cX7_transpose 94 = .ok (.iconst 1, 1) := by decide +kernel
theorem dX7_transpose_95 : decode cX7_transpose 95 = .ok (.aload_n 0, 1) := by decide +kernel
theorem dX7_transpose_96 : decode cX7_transpose 96 = .ok (.iload 4, 2) := by decide +kernel
theorem dX7_transpose_98 : decode cX7_transpose 98 = .ok (.iconst 1, 1) := by decide +kernel
theorem dX7_transpose_99 : decode cX7_transpose 99 = .ok (.invokevirtual 81, 3) := by decide +kernel
theorem dX7_transpose_102 : decode cX7_transpose 102 = .ok (.iload_n 3, 1) := by decide +kernel
theorem dX7_transpose_103 : decode cX7_transpose 103 = .ok (.iadd, 1) := by decide +kernel
theorem dX7_transpose_104 : decode cX7_transpose 104 = .ok (.invokevirtual 100, 3) := by decide +kernel
theorem dX7_transpose_107 : decode cX7_transpose 107 = .ok (.iinc 4 1, 3) := by decide +kernel
theorem dX7_transpose_110 : decode cX7_transpose 110 = .ok (.goto (-25), 3) := by decide +kernel
theorem dX7_transpose_113 : decode cX7_transpose 113 = .ok (.iload_n 2, 1) := by decide +kernel
theorem dX7_transpose_114 : decode cX7_transpose 114 = .ok (.iload_n 1, 1) := by decide +kernel
theorem dX7_transpose_115 : decode cX7_transpose 115 = .ok (.isub, 1) := by decide +kernel
theorem dX7_transpose_116 : decode cX7_transpose 116 = .ok (.iconst 1, 1) := by decide +kernel
theorem dX7_transpose_117 : decode cX7_transpose 117 = .ok (.iadd, 1) := by decide +kernel
theorem dX7_transpose_118 : decode cX7_transpose 118 = .ok (.ireturn, 1) := by decide +kernel
theorem dX7_noteOf_0 : decode cX7_noteOf 0 = .ok (.aload_n 0, 1) := by decide +kernel
theorem dX7_noteOf_1 : decode cX7_noteOf 1 = .ok (.iload_n 1, 1) := by decide +kernel
theorem dX7_noteOf_2 : decode cX7_noteOf 2 = .ok (.invokevirtual 109, 3) := by decide +kernel
theorem dX7_noteOf_5 : decode cX7_noteOf 5 = .ok (.ifCond .eq 13, 3) := by decide +kernel
theorem dX7_noteOf_8 : decode cX7_noteOf 8 = .ok (.iload_n 2, 1) := by decide +kernel
theorem dX7_noteOf_9 : decode cX7_noteOf 9 = .ok (.iconst 0, 1) := by decide +kernel
theorem dX7_noteOf_10 : decode cX7_noteOf 10 = .ok (.bipush 6, 2) := by decide +kernel
theorem dX7_noteOf_12 : decode cX7_noteOf 12 = .ok (.invokestatic 25, 3) := by decide +kernel
theorem dX7_noteOf_15 : decode cX7_noteOf 15 = .ok (.ifCond .ne 6, 3) := by decide +kernel
theorem dX7_noteOf_18 : decode cX7_noteOf 18 = .ok (.ldc 51, 2) := by decide +kernel
theorem dX7_noteOf_20 : decode cX7_noteOf 20 = .ok (.ireturn, 1) := by decide +kernel
theorem dX7_noteOf_21 : decode cX7_noteOf 21 = .ok (.aload_n 0, 1) := by decide +kernel
theorem dX7_noteOf_22 : decode cX7_noteOf 22 = .ok (.iload_n 1, 1) := by decide +kernel
theorem dX7_noteOf_23 : decode cX7_noteOf 23 = .ok (.iconst 2, 1) := by decide +kernel
theorem dX7_noteOf_24 : decode cX7_noteOf 24 = .ok (.invokevirtual 81, 3) := by decide +kernel
theorem dX7_noteOf_27 : decode cX7_noteOf 27 = .ok (.iconst 1, 1) := by decide +kernel
theorem dX7_noteOf_28 : decode cX7_noteOf 28 = .ok (.if_icmp .ne 17, 3) := by decide +kernel
theorem dX7_noteOf_31 : decode cX7_noteOf 31 = .ok (.aload_n 0, 1) := by decide +kernel
theorem dX7_noteOf_32 : decode cX7_noteOf 32 = .ok (.iload_n 1, 1) := by decide +kernel
theorem dX7_noteOf_33 : decode cX7_noteOf 33 = .ok (.iconst 3, 1) := by decide +kernel
theorem dX7_noteOf_34 : decode cX7_noteOf 34 = .ok (.invokevirtual 81, 3) := by decide +kernel
theorem dX7_noteOf_37 : decode cX7_noteOf 37 = .ok (.iconst (-1), 1) := by decide +kernel
theorem dX7_noteOf_38 : decode cX7_noteOf 38 = .ok (.if_icmp .eq 7, 3) := by decide +kernel
theorem dX7_noteOf_41 : decode cX7_noteOf 41 = .ok (.iconst 1, 1) := by decide +kernel
theorem dX7_noteOf_42 : decode cX7_noteOf 42 = .ok (.goto 4, 3) := by decide +kernel
theorem dX7_noteOf_45 : decode cX7_noteOf 45 = .ok (.iconst 0, 1) := by decide +kernel
theorem dX7_noteOf_46 : decode cX7_noteOf 46 = .ok (.istore_n 3, 1) := by decide +kernel
theorem dX7_noteOf_47 : decode cX7_noteOf 47 = .ok (.iload_n 2, 1) := by decide +kernel
theorem dX7_noteOf_48 : decode cX7_noteOf 48 = .ok (.tableswitch 52 0 3 #[32, 32, 39, 45], 32) := by decide +kernel
theorem dX7_noteOf_80 : decode cX7_noteOf 80 = .ok (.aload_n 0, 1) := by decide +kernel
theorem dX7_noteOf_81 : decode cX7_noteOf 81 = .ok (.iload_n 1, 1) := by decide +kernel
theorem dX7_noteOf_82 : decode cX7_noteOf 82 = .ok (.iload_n 2, 1) := by decide +kernel
theorem dX7_noteOf_83 : decode cX7_noteOf 83 = .ok (.invokevirtual 81, 3) := by decide +kernel
theorem dX7_noteOf_86 : decode cX7_noteOf 86 = .ok (.ireturn, 1) := by decide +kernel
theorem dX7_noteOf_87 : decode cX7_noteOf 87 = .ok (.aload_n 0, 1) := by decide +kernel
theorem dX7_noteOf_88 : decode cX7_noteOf 88 = .ok (.iload_n 1, 1) := by decide +kernel
theorem dX7_noteOf_89 : decode cX7_noteOf 89 = .ok (.invokevirtual 84, 3) := by decide +kernel
theorem dX7_noteOf_92 : decode cX7_noteOf 92 = .ok (.ireturn, 1) := by decide +kernel
theorem dX7_noteOf_93 : decode cX7_noteOf 93 = .ok (.aload_n 0, 1) := by decide +kernel
theorem dX7_noteOf_94 : decode cX7_noteOf 94 = .ok (.iload_n 1, 1) := by decide +kernel
theorem dX7_noteOf_95 : decode cX7_noteOf 95 = .ok (.iconst 2, 1) := by decide +kernel
theorem dX7_noteOf_96 : decode cX7_noteOf 96 = .ok (.invokevirtual 81, 3) := by decide +kernel
theorem dX7_noteOf_99 : decode cX7_noteOf 99 = .ok (.ireturn, 1) := by decide +kernel
theorem dX7_noteOf_100 : decode cX7_noteOf 100 = .ok (.iload_n 3, 1) := by decide +kernel
theorem dX7_noteOf_101 : decode cX7_noteOf 101 = .ok (.ifCond .eq 14, 3) := by decide +kernel
theorem dX7_noteOf_104 : decode cX7_noteOf 104 = .ok (.aload_n 0, 1) := by decide +kernel
theorem dX7_noteOf_105 : decode cX7_noteOf 105 = .ok (.iload_n 1, 1) := by decide +kernel
theorem dX7_noteOf_106 : decode cX7_noteOf 106 = .ok (.iload_n 2, 1) := by decide +kernel
theorem dX7_noteOf_107 : decode cX7_noteOf 107 = .ok (.iconst 1, 1) := by decide +kernel
theorem dX7_noteOf_108 : decode cX7_noteOf 108 = .ok (.isub, 1) := by decide +kernel
theorem dX7_noteOf_109 : decode cX7_noteOf 109 = .ok (.invokevirtual 81, 3) := by decide +kernel
theorem dX7_noteOf_112 : decode cX7_noteOf 112 = .ok (.goto 5, 3) := by decide +kernel
theorem dX7_noteOf_115 : decode cX7_noteOf 115 = .ok (.ldc 70, 2) := by decide +kernel
theorem dX7_noteOf_117 : decode cX7_noteOf 117 = .ok (.ireturn, 1) := by decide +kernel
theorem dX7_dries_0 : decode cX7_dries 0 = .ok (.iconst 0, 1) := by decide +kernel
theorem dX7_dries_1 : decode cX7_dries 1 = .ok (.istore_n 1, 1) := by decide +kernel
theorem dX7_dries_2 : decode cX7_dries 2 = .ok (.iload_n 1, 1) := by decide +kernel
theorem dX7_dries_3 : decode cX7_dries 3 = .ok (.aload_n 0, 1) := by decide +kernel
theorem dX7_dries_4 : decode cX7_dries 4 = .ok (.getfield 7, 3) := by decide +kernel
theorem dX7_dries_7 : decode cX7_dries 7 = .ok (.iconst 1, 1) := by decide +kernel
theorem dX7_dries_8 : decode cX7_dries 8 = .ok (.iaload, 1) := by decide +kernel
theorem dX7_dries_9 : decode cX7_dries 9 = .ok (.if_icmp .ge 48, 3) := by decide +kernel
theorem dX7_dries_12 : decode cX7_dries 12 = .ok (.aload_n 0, 1) := by decide +kernel
theorem dX7_dries_13 : decode cX7_dries 13 = .ok (.iload_n 1, 1) := by decide +kernel
theorem dX7_dries_14 : decode cX7_dries 14 = .ok (.iconst 2, 1) := by decide +kernel
theorem dX7_dries_15 : decode cX7_dries 15 = .ok (.invokevirtual 34, 3) := by decide +kernel
theorem dX7_dries_18 : decode cX7_dries 18 = .ok (.ifCond .le 7, 3) := by decide +kernel
theorem dX7_dries_21 : decode cX7_dries 21 = .ok (.iconst 1, 1) := by decide +kernel
theorem dX7_dries_22 : decode cX7_dries 22 = .ok (.goto 4, 3) := by decide +kernel
theorem dX7_dries_25 : decode cX7_dries 25 = .ok (.iconst 0, 1) := by decide +kernel
theorem dX7_dries_26 : decode cX7_dries 26 = .ok (.istore_n 2, 1) := by decide +kernel
theorem dX7_dries_27 : decode cX7_dries 27 = .ok (.aload_n 0, 1) := by decide +kernel
theorem dX7_dries_28 : decode cX7_dries 28 = .ok (.iload_n 1, 1) := by decide +kernel
theorem dX7_dries_29 : decode cX7_dries 29 = .ok (.iconst 2, 1) := by decide +kernel
theorem dX7_dries_30 : decode cX7_dries 30 = .ok (.aload_n 0, 1) := by decide +kernel
theorem dX7_dries_31 : decode cX7_dries 31 = .ok (.iload_n 1, 1) := by decide +kernel
theorem dX7_dries_32 : decode cX7_dries 32 = .ok (.iconst 2, 1) := by decide +kernel
theorem dX7_dries_33 : decode cX7_dries 33 = .ok (.invokevirtual 34, 3) := by decide +kernel
theorem dX7_dries_36 : decode cX7_dries 36 = .ok (.iload_n 2, 1) := by decide +kernel
theorem dX7_dries_37 : decode cX7_dries 37 = .ok (.isub, 1) := by decide +kernel
theorem dX7_dries_38 : decode cX7_dries 38 = .ok (.invokevirtual 43, 3) := by decide +kernel
theorem dX7_dries_41 : decode cX7_dries 41 = .ok (.aload_n 0, 1) := by decide +kernel
theorem dX7_dries_42 : decode cX7_dries 42 = .ok (.getfield 7, 3) := by decide +kernel
theorem dX7_dries_45 : decode cX7_dries 45 = .ok (.iconst 4, 1) := by decide +kernel
theorem dX7_dries_46 : decode cX7_dries 46 = .ok (.dup2, 1) := by decide +kernel
theorem dX7_dries_47 : decode cX7_dries 47 = .ok (.iaload, 1) := by decide +kernel
theorem dX7_dries_48 : decode cX7_dries 48 = .ok (.iload_n 2, 1) := by decide +kernel
theorem dX7_dries_49 : decode cX7_dries 49 = .ok (.iadd, 1) := by decide +kernel
theorem dX7_dries_50 : decode cX7_dries 50 = .ok (.iastore, 1) := by decide +kernel
theorem dX7_dries_51 : decode cX7_dries 51 = .ok (.iinc 1 1, 3) := by decide +kernel
theorem dX7_dries_54 : decode cX7_dries 54 = .ok (.goto (-52), 3) := by decide +kernel
theorem dX7_dries_57 : decode cX7_dries 57 = .ok (.return_, 1) := by decide +kernel
theorem dX7_fills_0 : decode cX7_fills 0 = .ok (.iconst 0, 1) := by decide +kernel
theorem dX7_fills_1 : decode cX7_fills 1 = .ok (.istore_n 1, 1) := by decide +kernel
theorem dX7_fills_2 : decode cX7_fills 2 = .ok (.iload_n 1, 1) := by decide +kernel
theorem dX7_fills_3 : decode cX7_fills 3 = .ok (.aload_n 0, 1) := by decide +kernel
theorem dX7_fills_4 : decode cX7_fills 4 = .ok (.getfield 7, 3) := by decide +kernel
theorem dX7_fills_7 : decode cX7_fills 7 = .ok (.iconst 1, 1) := by decide +kernel
theorem dX7_fills_8 : decode cX7_fills 8 = .ok (.iaload, 1) := by decide +kernel
theorem dX7_fills_9 : decode cX7_fills 9 = .ok (.if_icmp .ge 42, 3) := by decide +kernel
theorem dX7_fills_12 : decode cX7_fills 12 = .ok (.aload_n 0, 1) := by decide +kernel
theorem dX7_fills_13 : decode cX7_fills 13 = .ok (.iload_n 1, 1) := by decide +kernel
theorem dX7_fills_14 : decode cX7_fills 14 = .ok (.iconst 2, 1) := by decide +kernel
theorem dX7_fills_15 : decode cX7_fills 15 = .ok (.invokevirtual 34, 3) := by decide +kernel
theorem dX7_fills_18 : decode cX7_fills 18 = .ok (.aload_n 0, 1) := by decide +kernel
theorem dX7_fills_19 : decode cX7_fills 19 = .ok (.iload_n 1, 1) := by decide +kernel
theorem dX7_fills_20 : decode cX7_fills 20 = .ok (.iconst 3, 1) := by decide +kernel
theorem dX7_fills_21 : decode cX7_fills 21 = .ok (.invokevirtual 34, 3) := by decide +kernel
theorem dX7_fills_24 : decode cX7_fills 24 = .ok (.if_icmp .ge 21, 3) := by decide +kernel
theorem dX7_fills_27 : decode cX7_fills 27 = .ok (.aload_n 0, 1) := by decide +kernel
theorem dX7_fills_28 : decode cX7_fills 28 = .ok (.iload_n 1, 1) := by decide +kernel
theorem dX7_fills_29 : decode cX7_fills 29 = .ok (.aload_n 0, 1) := by decide +kernel
theorem dX7_fills_30 : decode cX7_fills 30 = .ok (.iload_n 1, 1) := by decide +kernel
theorem dX7_fills_31 : decode cX7_fills 31 = .ok (.iconst 3, 1) := by decide +kernel
theorem dX7_fills_32 : decode cX7_fills 32 = .ok (.invokevirtual 34, 3) := by decide +kernel
theorem dX7_fills_35 : decode cX7_fills 35 = .ok (.aload_n 0, 1) := by decide +kernel
theorem dX7_fills_36 : decode cX7_fills 36 = .ok (.iload_n 1, 1) := by decide +kernel
theorem dX7_fills_37 : decode cX7_fills 37 = .ok (.iconst 2, 1) := by decide +kernel
theorem dX7_fills_38 : decode cX7_fills 38 = .ok (.invokevirtual 34, 3) := by decide +kernel
theorem dX7_fills_41 : decode cX7_fills 41 = .ok (.isub, 1) := by decide +kernel
theorem dX7_fills_42 : decode cX7_fills 42 = .ok (.invokevirtual 60, 3) := by decide +kernel
theorem dX7_fills_45 : decode cX7_fills 45 = .ok (.iinc 1 1, 3) := by decide +kernel
theorem dX7_fills_48 : decode cX7_fills 48 = .ok (.goto (-46), 3) := by decide +kernel
theorem dX7_fills_51 : decode cX7_fills 51 = .ok (.return_, 1) := by decide +kernel
theorem dX7_plays_0 : decode cX7_plays 0 = .ok (.aload_n 0, 1) := by decide +kernel
theorem dX7_plays_1 : decode cX7_plays 1 = .ok (.iconst 3, 1) := by decide +kernel
theorem dX7_plays_2 : decode cX7_plays 2 = .ok (.invokevirtual 78, 3) := by decide +kernel
theorem dX7_plays_5 : decode cX7_plays 5 = .ok (.iconst 1, 1) := by decide +kernel
theorem dX7_plays_6 : decode cX7_plays 6 = .ok (.if_icmp .ne 15, 3) := by decide +kernel
theorem dX7_plays_9 : decode cX7_plays 9 = .ok (.aload_n 0, 1) := by decide +kernel
theorem dX7_plays_10 : decode cX7_plays 10 = .ok (.iload_n 1, 1) := by decide +kernel
theorem dX7_plays_11 : decode cX7_plays 11 = .ok (.invokevirtual 97, 3) := by decide +kernel
theorem dX7_plays_14 : decode cX7_plays 14 = .ok (.ifCond .eq 7, 3) := by decide +kernel
theorem dX7_plays_17 : decode cX7_plays 17 = .ok (.aload_n 0, 1) := by decide +kernel
theorem dX7_plays_18 : decode cX7_plays 18 = .ok (.invokevirtual 112, 3) := by decide +kernel
theorem dX7_plays_21 : decode cX7_plays 21 = .ok (.aload_n 0, 1) := by decide +kernel
theorem dX7_plays_22 : decode cX7_plays 22 = .ok (.aload_n 0, 1) := by decide +kernel
theorem dX7_plays_23 : decode cX7_plays 23 = .ok (.iload_n 1, 1) := by decide +kernel
theorem dX7_plays_24 : decode cX7_plays 24 = .ok (.iconst 1, 1) := by decide +kernel
theorem dX7_plays_25 : decode cX7_plays 25 = .ok (.invokevirtual 81, 3) := by decide +kernel
theorem dX7_plays_28 : decode cX7_plays 28 = .ok (.invokevirtual 71, 3) := by decide +kernel
theorem dX7_plays_31 : decode cX7_plays 31 = .ok (.istore_n 2, 1) := by decide +kernel
theorem dX7_plays_32 : decode cX7_plays 32 = .ok (.iload_n 2, 1) := by decide +kernel
theorem dX7_plays_33 : decode cX7_plays 33 = .ok (.iconst (-1), 1) := by decide +kernel
theorem dX7_plays_34 : decode cX7_plays 34 = .ok (.if_icmp .ne 7, 3) := by decide +kernel
theorem dX7_plays_37 : decode cX7_plays 37 = .ok (.iconst 0, 1) := by decide +kernel
theorem dX7_plays_38 : decode cX7_plays 38 = .ok (.goto 15, 3) := by decide +kernel
theorem dX7_plays_41 : decode cX7_plays 41 = .ok (.aload_n 0, 1) := by decide +kernel
theorem dX7_plays_42 : decode cX7_plays 42 = .ok (.iload_n 2, 1) := by decide +kernel
theorem dX7_plays_43 : decode cX7_plays 43 = .ok (.invokevirtual 64, 3) := by decide +kernel
theorem dX7_plays_46 : decode cX7_plays 46 = .ok (.aload_n 0, 1) := by decide +kernel
theorem dX7_plays_47 : decode cX7_plays 47 = .ok (.iload_n 1, 1) := by decide +kernel
theorem dX7_plays_48 : decode cX7_plays 48 = .ok (.iconst 1, 1) := by decide +kernel
theorem dX7_plays_49 : decode cX7_plays 49 = .ok (.invokevirtual 81, 3) := by decide +kernel
theorem dX7_plays_52 : decode cX7_plays 52 = .ok (.isub, 1) := by decide +kernel
theorem dX7_plays_53 : decode cX7_plays 53 = .ok (.istore_n 3, 1) := by decide +kernel
theorem dX7_plays_54 : decode cX7_plays 54 = .ok (.aload_n 0, 1) := by decide +kernel
theorem dX7_plays_55 : decode cX7_plays 55 = .ok (.iload_n 1, 1) := by decide +kernel
theorem dX7_plays_56 : decode cX7_plays 56 = .ok (.iconst 2, 1) := by decide +kernel
theorem dX7_plays_57 : decode cX7_plays 57 = .ok (.iconst 1, 1) := by decide +kernel
theorem dX7_plays_58 : decode cX7_plays 58 = .ok (.invokevirtual 100, 3) := by decide +kernel
theorem dX7_plays_61 : decode cX7_plays 61 = .ok (.aload_n 0, 1) := by decide +kernel
theorem dX7_plays_62 : decode cX7_plays 62 = .ok (.iload_n 1, 1) := by decide +kernel
theorem dX7_plays_63 : decode cX7_plays 63 = .ok (.iconst 3, 1) := by decide +kernel
theorem dX7_plays_64 : decode cX7_plays 64 = .ok (.iload_n 2, 1) := by decide +kernel
theorem dX7_plays_65 : decode cX7_plays 65 = .ok (.invokevirtual 100, 3) := by decide +kernel
theorem dX7_plays_68 : decode cX7_plays 68 = .ok (.aload_n 0, 1) := by decide +kernel
theorem dX7_plays_69 : decode cX7_plays 69 = .ok (.iload_n 1, 1) := by decide +kernel
theorem dX7_plays_70 : decode cX7_plays 70 = .ok (.iconst 4, 1) := by decide +kernel
theorem dX7_plays_71 : decode cX7_plays 71 = .ok (.iload_n 3, 1) := by decide +kernel
theorem dX7_plays_72 : decode cX7_plays 72 = .ok (.invokevirtual 100, 3) := by decide +kernel
theorem dX7_plays_75 : decode cX7_plays 75 = .ok (.aload_n 0, 1) := by decide +kernel
theorem dX7_plays_76 : decode cX7_plays 76 = .ok (.iload_n 1, 1) := by decide +kernel
theorem dX7_plays_77 : decode cX7_plays 77 = .ok (.iconst 5, 1) := by decide +kernel
theorem dX7_plays_78 : decode cX7_plays 78 = .ok (.iload_n 2, 1) := by decide +kernel
theorem dX7_plays_79 : decode cX7_plays 79 = .ok (.iconst (-1), 1) := by decide +kernel
theorem dX7_plays_80 : decode cX7_plays 80 = .ok (.if_icmp .eq 19, 3) := by decide +kernel
theorem dX7_plays_83 : decode cX7_plays 83 = .ok (.iload_n 3, 1) := by decide +kernel
theorem dX7_plays_84 : decode cX7_plays 84 = .ok (.invokestatic 67, 3) := by decide +kernel
theorem dX7_plays_87 : decode cX7_plays 87 = .ok (.aload_n 0, 1) := by decide +kernel
theorem dX7_plays_88 : decode cX7_plays 88 = .ok (.iconst 2, 1) := by decide +kernel
theorem dX7_plays_89 : decode cX7_plays 89 = .ok (.invokevirtual 78, 3) := by decide +kernel
theorem dX7_plays_92 : decode cX7_plays 92 = .ok (.if_icmp .gt 7, 3) := by decide +kernel
theorem dX7_plays_95 : decode cX7_plays 95 = .ok (.iconst 1, 1) := by decide +kernel
theorem dX7_plays_96 : decode cX7_plays 96 = .ok (.goto 4, 3) := by decide +kernel
theorem dX7_plays_99 : decode cX7_plays 99 = .ok (.iconst 0, 1) := by decide +kernel
theorem dX7_plays_100 : decode cX7_plays 100 = .ok (.invokevirtual 100, 3) := by decide +kernel
theorem dX7_plays_103 : decode cX7_plays 103 = .ok (.return_, 1) := by decide +kernel
theorem dX7_second_0 : decode cX7_second 0 = .ok (.aload_n 0, 1) := by decide +kernel
theorem dX7_second_1 : decode cX7_second 1 = .ok (.getfield 7, 3) := by decide +kernel
theorem dX7_second_4 : decode cX7_second 4 = .ok (.iconst 0, 1) := by decide +kernel
theorem dX7_second_5 : decode cX7_second 5 = .ok (.dup2, 1) := by decide +kernel
theorem dX7_second_6 : decode cX7_second 6 = .ok (.iaload, 1) := by decide +kernel
theorem dX7_second_7 : decode cX7_second 7 = .ok (.iconst 1, 1) := by decide +kernel
theorem dX7_second_8 : decode cX7_second 8 = .ok (.iadd, 1) := by decide +kernel
theorem dX7_second_9 : decode cX7_second 9 = .ok (.iastore, 1) := by decide +kernel
theorem dX7_second_10 : decode cX7_second 10 = .ok (.aload_n 0, 1) := by decide +kernel
theorem dX7_second_11 : decode cX7_second 11 = .ok (.getfield 7, 3) := by decide +kernel
theorem dX7_second_14 : decode cX7_second 14 = .ok (.iconst 0, 1) := by decide +kernel
theorem dX7_second_15 : decode cX7_second 15 = .ok (.iaload, 1) := by decide +kernel
theorem dX7_second_16 : decode cX7_second 16 = .ok (.aload_n 0, 1) := by decide +kernel
theorem dX7_second_17 : decode cX7_second 17 = .ok (.iconst 0, 1) := by decide +kernel
theorem dX7_second_18 : decode cX7_second 18 = .ok (.invokevirtual 78, 3) := by decide +kernel
theorem dX7_second_21 : decode cX7_second 21 = .ok (.irem, 1) := by decide +kernel
theorem dX7_second_22 : decode cX7_second 22 = .ok (.ifCond .ne 7, 3) := by decide +kernel
theorem dX7_second_25 : decode cX7_second 25 = .ok (.aload_n 0, 1) := by decide +kernel
theorem dX7_second_26 : decode cX7_second 26 = .ok (.invokevirtual 115, 3) := by decide +kernel
theorem dX7_second_29 : decode cX7_second 29 = .ok (.aload_n 0, 1) := by decide +kernel
theorem dX7_second_30 : decode cX7_second 30 = .ok (.aload_n 0, 1) := by decide +kernel
theorem dX7_second_31 : decode cX7_second 31 = .ok (.getfield 7, 3) := by decide +kernel
theorem dX7_second_34 : decode cX7_second 34 = .ok (.iconst 0, 1) := by decide +kernel
theorem dX7_second_35 : decode cX7_second 35 = .ok (.iaload, 1) := by decide +kernel
theorem dX7_second_36 : decode cX7_second 36 = .ok (.invokevirtual 103, 3) := by decide +kernel
theorem dX7_second_39 : decode cX7_second 39 = .ok (.istore_n 1, 1) := by decide +kernel
theorem dX7_second_40 : decode cX7_second 40 = .ok (.iload_n 1, 1) := by decide +kernel
theorem dX7_second_41 : decode cX7_second 41 = .ok (.ifCond .lt 8, 3) := by decide +kernel
theorem dX7_second_44 : decode cX7_second 44 = .ok (.aload_n 0, 1) := by decide +kernel
theorem dX7_second_45 : decode cX7_second 45 = .ok (.iload_n 1, 1) := by decide +kernel
theorem dX7_second_46 : decode cX7_second 46 = .ok (.invokevirtual 118, 3) := by decide +kernel
theorem dX7_second_49 : decode cX7_second 49 = .ok (.iload_n 1, 1) := by decide +kernel
theorem dX7_second_50 : decode cX7_second 50 = .ok (.ireturn, 1) := by decide +kernel
theorem dX7_run_0 : decode cX7_run 0 = .ok (.iload_n 1, 1) := by decide +kernel
theorem dX7_run_1 : decode cX7_run 1 = .ok (.iconst 1, 1) := by decide +kernel
theorem dX7_run_2 : decode cX7_run 2 = .ok (.sipush 600, 3) := by decide +kernel
theorem dX7_run_5 : decode cX7_run 5 = .ok (.invokestatic 25, 3) := by decide +kernel
theorem dX7_run_8 : decode cX7_run 8 = .ok (.ifCond .ne 6, 3) := by decide +kernel
theorem dX7_run_11 : decode cX7_run 11 = .ok (.ldc 51, 2) := by decide +kernel
theorem dX7_run_13 : decode cX7_run 13 = .ok (.ireturn, 1) := by decide +kernel
theorem dX7_run_14 : decode cX7_run 14 = .ok (.aload_n 0, 1) := by decide +kernel
theorem dX7_run_15 : decode cX7_run 15 = .ok (.getfield 7, 3) := by decide +kernel
theorem dX7_run_18 : decode cX7_run 18 = .ok (.iconst 0, 1) := by decide +kernel
theorem dX7_run_19 : decode cX7_run 19 = .ok (.iaload, 1) := by decide +kernel
theorem dX7_run_20 : decode cX7_run 20 = .ok (.iload_n 1, 1) := by decide +kernel
theorem dX7_run_21 : decode cX7_run 21 = .ok (.iadd, 1) := by decide +kernel
theorem dX7_run_22 : decode cX7_run 22 = .ok (.sipush 3600, 3) := by decide +kernel
theorem dX7_run_25 : decode cX7_run 25 = .ok (.if_icmp .le 6, 3) := by decide +kernel
theorem dX7_run_28 : decode cX7_run 28 = .ok (.ldc 52, 2) := by decide +kernel
theorem dX7_run_30 : decode cX7_run 30 = .ok (.ireturn, 1) := by decide +kernel
theorem dX7_run_31 : decode cX7_run 31 = .ok (.aload_n 0, 1) := by decide +kernel
theorem dX7_run_32 : decode cX7_run 32 = .ok (.invokevirtual 53, 3) := by decide +kernel
theorem dX7_run_35 : decode cX7_run 35 = .ok (.iconst 0, 1) := by decide +kernel
theorem dX7_run_36 : decode cX7_run 36 = .ok (.istore_n 2, 1) := by decide +kernel
theorem dX7_run_37 : decode cX7_run 37 = .ok (.iconst 0, 1) := by decide +kernel
theorem dX7_run_38 : decode cX7_run 38 = .ok (.istore_n 3, 1) := by decide +kernel
theorem dX7_run_39 : decode cX7_run 39 = .ok (.iload_n 3, 1) := by decide +kernel
theorem dX7_run_40 : decode cX7_run 40 = .ok (.iload_n 1, 1) := by decide +kernel
theorem dX7_run_41 : decode cX7_run 41 = .ok (.if_icmp .ge 24, 3) := by decide +kernel
theorem dX7_run_44 : decode cX7_run 44 = .ok (.iload_n 2, 1) := by decide +kernel
theorem dX7_run_45 : decode cX7_run 45 = .ok (.aload_n 0, 1) := by decide +kernel
theorem dX7_run_46 : decode cX7_run 46 = .ok (.invokevirtual 122, 3) := by decide +kernel
theorem dX7_run_49 : decode cX7_run 49 = .ok (.ifCond .lt 7, 3) := by decide +kernel
theorem dX7_run_52 : decode cX7_run 52 = .ok (.iconst 1, 1) := by decide +kernel
theorem dX7_run_53 : decode cX7_run 53 = .ok (.goto 4, 3) := by decide +kernel
theorem dX7_run_56 : decode cX7_run 56 = .ok (.iconst 0, 1) := by decide +kernel
theorem dX7_run_57 : decode cX7_run 57 = .ok (.iadd, 1) := by decide +kernel
theorem dX7_run_58 : decode cX7_run 58 = .ok (.istore_n 2, 1) := by decide +kernel
theorem dX7_run_59 : decode cX7_run 59 = .ok (.iinc 3 1, 3) := by decide +kernel
theorem dX7_run_62 : decode cX7_run 62 = .ok (.goto (-23), 3) := by decide +kernel
theorem dX7_run_65 : decode cX7_run 65 = .ok (.iload_n 2, 1) := by decide +kernel
theorem dX7_run_66 : decode cX7_run 66 = .ok (.ireturn, 1) := by decide +kernel
theorem dX7_rewind_0 : decode cX7_rewind 0 = .ok (.aload_n 0, 1) := by decide +kernel
theorem dX7_rewind_1 : decode cX7_rewind 1 = .ok (.invokevirtual 53, 3) := by decide +kernel
theorem dX7_rewind_4 : decode cX7_rewind 4 = .ok (.aload_n 0, 1) := by decide +kernel
theorem dX7_rewind_5 : decode cX7_rewind 5 = .ok (.getfield 7, 3) := by decide +kernel
theorem dX7_rewind_8 : decode cX7_rewind 8 = .ok (.iconst 0, 1) := by decide +kernel
theorem dX7_rewind_9 : decode cX7_rewind 9 = .ok (.iaload, 1) := by decide +kernel
theorem dX7_rewind_10 : decode cX7_rewind 10 = .ok (.istore_n 1, 1) := by decide +kernel
theorem dX7_rewind_11 : decode cX7_rewind 11 = .ok (.aload_n 0, 1) := by decide +kernel
theorem dX7_rewind_12 : decode cX7_rewind 12 = .ok (.getfield 7, 3) := by decide +kernel
theorem dX7_rewind_15 : decode cX7_rewind 15 = .ok (.iconst 0, 1) := by decide +kernel
theorem dX7_rewind_16 : decode cX7_rewind 16 = .ok (.iconst 0, 1) := by decide +kernel
theorem dX7_rewind_17 : decode cX7_rewind 17 = .ok (.iastore, 1) := by decide +kernel
theorem dX7_rewind_18 : decode cX7_rewind 18 = .ok (.iconst 0, 1) := by decide +kernel
theorem dX7_rewind_19 : decode cX7_rewind 19 = .ok (.istore_n 2, 1) := by decide +kernel
theorem dX7_rewind_20 : decode cX7_rewind 20 = .ok (.iload_n 2, 1) := by decide +kernel
theorem dX7_rewind_21 : decode cX7_rewind 21 = .ok (.aload_n 0, 1) := by decide +kernel
theorem dX7_rewind_22 : decode cX7_rewind 22 = .ok (.getfield 7, 3) := by decide +kernel
theorem dX7_rewind_25 : decode cX7_rewind 25 = .ok (.iconst 2, 1) := by decide +kernel
theorem dX7_rewind_26 : decode cX7_rewind 26 = .ok (.iaload, 1) := by decide +kernel
theorem dX7_rewind_27 : decode cX7_rewind 27 = .ok (.if_icmp .ge 23, 3) := by decide +kernel
theorem dX7_rewind_30 : decode cX7_rewind 30 = .ok (.aload_n 0, 1) := by decide +kernel
theorem dX7_rewind_31 : decode cX7_rewind 31 = .ok (.iload_n 2, 1) := by decide +kernel
theorem dX7_rewind_32 : decode cX7_rewind 32 = .ok (.iconst 2, 1) := by decide +kernel
theorem dX7_rewind_33 : decode cX7_rewind 33 = .ok (.iconst 0, 1) := by decide +kernel
theorem dX7_rewind_34 : decode cX7_rewind 34 = .ok (.invokevirtual 100, 3) := by decide +kernel
theorem dX7_rewind_37 : decode cX7_rewind 37 = .ok (.aload_n 0, 1) := by decide +kernel
theorem dX7_rewind_38 : decode cX7_rewind 38 = .ok (.iload_n 2, 1) := by decide +kernel
theorem dX7_rewind_39 : decode cX7_rewind 39 = .ok (.iconst 3, 1) := by decide +kernel
theorem dX7_rewind_40 : decode cX7_rewind 40 = .ok (.iconst (-1), 1) := by decide +kernel
theorem dX7_rewind_41 : decode cX7_rewind 41 = .ok (.invokevirtual 100, 3) := by decide +kernel
theorem dX7_rewind_44 : decode cX7_rewind 44 = .ok (.iinc 2 1, 3) := by decide +kernel
theorem dX7_rewind_47 : decode cX7_rewind 47 = .ok (.goto (-27), 3) := by decide +kernel
theorem dX7_rewind_50 : decode cX7_rewind 50 = .ok (.iload_n 1, 1) := by decide +kernel
theorem dX7_rewind_51 : decode cX7_rewind 51 = .ok (.ireturn, 1) := by decide +kernel
theorem dX7_hasSounded_0 : decode cX7_hasSounded 0 = .ok (.aload_n 0, 1) := by decide +kernel
theorem dX7_hasSounded_1 : decode cX7_hasSounded 1 = .ok (.iload_n 1, 1) := by decide +kernel
theorem dX7_hasSounded_2 : decode cX7_hasSounded 2 = .ok (.iconst 2, 1) := by decide +kernel
theorem dX7_hasSounded_3 : decode cX7_hasSounded 3 = .ok (.invokevirtual 81, 3) := by decide +kernel
theorem dX7_hasSounded_6 : decode cX7_hasSounded 6 = .ok (.iconst 1, 1) := by decide +kernel
theorem dX7_hasSounded_7 : decode cX7_hasSounded 7 = .ok (.if_icmp .ne 17, 3) := by decide +kernel
theorem dX7_hasSounded_10 : decode cX7_hasSounded 10 = .ok (.aload_n 0, 1) := by decide +kernel
theorem dX7_hasSounded_11 : decode cX7_hasSounded 11 = .ok (.iload_n 1, 1) := by decide +kernel
theorem dX7_hasSounded_12 : decode cX7_hasSounded 12 = .ok (.iconst 3, 1) := by decide +kernel
theorem dX7_hasSounded_13 : decode cX7_hasSounded 13 = .ok (.invokevirtual 81, 3) := by decide +kernel
theorem dX7_hasSounded_16 : decode cX7_hasSounded 16 = .ok (.iconst (-1), 1) := by decide +kernel
theorem dX7_hasSounded_17 : decode cX7_hasSounded 17 = .ok (.if_icmp .eq 7, 3) := by decide +kernel
theorem dX7_hasSounded_20 : decode cX7_hasSounded 20 = .ok (.iconst 1, 1) := by decide +kernel
theorem dX7_hasSounded_21 : decode cX7_hasSounded 21 = .ok (.goto 4, 3) := by decide +kernel
theorem dX7_hasSounded_24 : decode cX7_hasSounded 24 = .ok (.iconst 0, 1) := by decide +kernel
theorem dX7_hasSounded_25 : decode cX7_hasSounded 25 = .ok (.ireturn, 1) := by decide +kernel
theorem dX7_standAhead_0 : decode cX7_standAhead 0 = .ok (.iconst 0, 1) := by decide +kernel
theorem dX7_standAhead_1 : decode cX7_standAhead 1 = .ok (.istore_n 2, 1) := by decide +kernel
theorem dX7_standAhead_2 : decode cX7_standAhead 2 = .ok (.iconst 0, 1) := by decide +kernel
theorem dX7_standAhead_3 : decode cX7_standAhead 3 = .ok (.istore_n 3, 1) := by decide +kernel
theorem dX7_standAhead_4 : decode cX7_standAhead 4 = .ok (.iload_n 3, 1) := by decide +kernel
theorem dX7_standAhead_5 : decode cX7_standAhead 5 = .ok (.aload_n 0, 1) := by decide +kernel
theorem dX7_standAhead_6 : decode cX7_standAhead 6 = .ok (.getfield 7, 3) := by decide +kernel
theorem dX7_standAhead_9 : decode cX7_standAhead 9 = .ok (.iconst 2, 1) := by decide +kernel
theorem dX7_standAhead_10 : decode cX7_standAhead 10 = .ok (.iaload, 1) := by decide +kernel
theorem dX7_standAhead_11 : decode cX7_standAhead 11 = .ok (.if_icmp .ge 61, 3) := by decide +kernel
theorem dX7_standAhead_14 : decode cX7_standAhead 14 = .ok (.aload_n 0, 1) := by decide +kernel
theorem dX7_standAhead_15 : decode cX7_standAhead 15 = .ok (.iload_n 3, 1) := by decide +kernel
theorem dX7_standAhead_16 : decode cX7_standAhead 16 = .ok (.iconst 4, 1) := by decide +kernel
theorem dX7_standAhead_17 : decode cX7_standAhead 17 = .ok (.invokevirtual 81, 3) := by decide +kernel
theorem dX7_standAhead_20 : decode cX7_standAhead 20 = .ok (.invokestatic 67, 3) := by decide +kernel
theorem dX7_standAhead_23 : decode cX7_standAhead 23 = .ok (.aload_n 0, 1) := by decide +kernel
theorem dX7_standAhead_24 : decode cX7_standAhead 24 = .ok (.iload_n 1, 1) := by decide +kernel
theorem dX7_standAhead_25 : decode cX7_standAhead 25 = .ok (.iconst 4, 1) := by decide +kernel
theorem dX7_standAhead_26 : decode cX7_standAhead 26 = .ok (.invokevirtual 81, 3) := by decide +kernel
theorem dX7_standAhead_29 : decode cX7_standAhead 29 = .ok (.invokestatic 67, 3) := by decide +kernel
theorem dX7_standAhead_32 : decode cX7_standAhead 32 = .ok (.isub, 1) := by decide +kernel
theorem dX7_standAhead_33 : decode cX7_standAhead 33 = .ok (.istore 4, 2) := by decide +kernel
theorem dX7_standAhead_35 : decode cX7_standAhead 35 = .ok (.iload_n 2, 1) := by decide +kernel
theorem dX7_standAhead_36 : decode cX7_standAhead 36 = .ok (.aload_n 0, 1) := by decide +kernel
theorem dX7_standAhead_37 : decode cX7_standAhead 37 = .ok (.iload_n 3, 1) := by decide +kernel
theorem dX7_standAhead_38 : decode cX7_standAhead 38 = .ok (.invokevirtual 125, 3) := by decide +kernel
theorem dX7_standAhead_41 : decode cX7_standAhead 41 = .ok (.ifCond .eq 22, 3) := by decide +kernel
theorem dX7_standAhead_44 : decode cX7_standAhead 44 = .ok (.iload 4, 2) := by decide +kernel
theorem dX7_standAhead_46 : decode cX7_standAhead 46 = .ok (.ifCond .gt 13, 3) := by decide +kernel
theorem dX7_standAhead_49 : decode cX7_standAhead 49 = .ok (.iload 4, 2) := by decide +kernel
theorem dX7_standAhead_51 : decode cX7_standAhead 51 = .ok (.ifCond .ne 12, 3) := by decide +kernel
theorem dX7_standAhead_54 : decode cX7_standAhead 54 = .ok (.iload_n 3, 1) := by decide +kernel
theorem dX7_standAhead_55 : decode cX7_standAhead 55 = .ok (.iload_n 1, 1) := by decide +kernel
theorem dX7_standAhead_56 : decode cX7_standAhead 56 = .ok (.if_icmp .ge 7, 3) := by decide +kernel
theorem dX7_standAhead_59 : decode cX7_standAhead 59 = .ok (.iconst 1, 1) := by decide +kernel
theorem dX7_standAhead_60 : decode cX7_standAhead 60 = .ok (.goto 4, 3) := by decide +kernel
theorem dX7_standAhead_63 : decode cX7_standAhead 63 = .ok (.iconst 0, 1) := by decide +kernel
theorem dX7_standAhead_64 : decode cX7_standAhead 64 = .ok (.iadd, 1) := by decide +kernel
theorem dX7_standAhead_65 : decode cX7_standAhead 65 = .ok (.istore_n 2, 1) := by decide +kernel
theorem dX7_standAhead_66 : decode cX7_standAhead 66 = .ok (.iinc 3 1, 3) := by decide +kernel
theorem dX7_standAhead_69 : decode cX7_standAhead 69 = .ok (.goto (-65), 3) := by decide +kernel
theorem dX7_standAhead_72 : decode cX7_standAhead 72 = .ok (.iload_n 2, 1) := by decide +kernel
theorem dX7_standAhead_73 : decode cX7_standAhead 73 = .ok (.ireturn, 1) := by decide +kernel
theorem dX7_worst_0 : decode cX7_worst 0 = .ok (.iload_n 1, 1) := by decide +kernel
theorem dX7_worst_1 : decode cX7_worst 1 = .ok (.ifCond .ge 6, 3) := by decide +kernel
theorem dX7_worst_4 : decode cX7_worst 4 = .ok (.ldc 51, 2) := by decide +kernel
theorem dX7_worst_6 : decode cX7_worst 6 = .ok (.ireturn, 1) := by decide +kernel
theorem dX7_worst_7 : decode cX7_worst 7 = .ok (.iconst 0, 1) := by decide +kernel
theorem dX7_worst_8 : decode cX7_worst 8 = .ok (.istore_n 2, 1) := by decide +kernel
theorem dX7_worst_9 : decode cX7_worst 9 = .ok (.iload_n 2, 1) := by decide +kernel
theorem dX7_worst_10 : decode cX7_worst 10 = .ok (.aload_n 0, 1) := by decide +kernel
theorem dX7_worst_11 : decode cX7_worst 11 = .ok (.getfield 7, 3) := by decide +kernel
theorem dX7_worst_14 : decode cX7_worst 14 = .ok (.iconst 2, 1) := by decide +kernel
theorem dX7_worst_15 : decode cX7_worst 15 = .ok (.iaload, 1) := by decide +kernel
theorem dX7_worst_16 : decode cX7_worst 16 = .ok (.if_icmp .ge 28, 3) := by decide +kernel
theorem dX7_worst_19 : decode cX7_worst 19 = .ok (.aload_n 0, 1) := by decide +kernel
theorem dX7_worst_20 : decode cX7_worst 20 = .ok (.iload_n 2, 1) := by decide +kernel
theorem dX7_worst_21 : decode cX7_worst 21 = .ok (.invokevirtual 125, 3) := by decide +kernel
theorem dX7_worst_24 : decode cX7_worst 24 = .ok (.ifCond .eq 14, 3) := by decide +kernel
theorem dX7_worst_27 : decode cX7_worst 27 = .ok (.aload_n 0, 1) := by decide +kernel
theorem dX7_worst_28 : decode cX7_worst 28 = .ok (.iload_n 2, 1) := by decide +kernel
theorem dX7_worst_29 : decode cX7_worst 29 = .ok (.invokevirtual 128, 3) := by decide +kernel
theorem dX7_worst_32 : decode cX7_worst 32 = .ok (.iload_n 1, 1) := by decide +kernel
theorem dX7_worst_33 : decode cX7_worst 33 = .ok (.if_icmp .ne 5, 3) := by decide +kernel
theorem dX7_worst_36 : decode cX7_worst 36 = .ok (.iload_n 2, 1) := by decide +kernel
theorem dX7_worst_37 : decode cX7_worst 37 = .ok (.ireturn, 1) := by decide +kernel
theorem dX7_worst_38 : decode cX7_worst 38 = .ok (.iinc 2 1, 3) := by decide +kernel
theorem dX7_worst_41 : decode cX7_worst 41 = .ok (.goto (-32), 3) := by decide +kernel
theorem dX7_worst_44 : decode cX7_worst 44 = .ok (.ldc 70, 2) := by decide +kernel
theorem dX7_worst_46 : decode cX7_worst 46 = .ok (.ireturn, 1) := by decide +kernel
theorem dX7_isToCome_0 : decode cX7_isToCome 0 = .ok (.aload_n 0, 1) := by decide +kernel
theorem dX7_isToCome_1 : decode cX7_isToCome 1 = .ok (.iload_n 1, 1) := by decide +kernel
theorem dX7_isToCome_2 : decode cX7_isToCome 2 = .ok (.iconst 0, 1) := by decide +kernel
theorem dX7_isToCome_3 : decode cX7_isToCome 3 = .ok (.invokevirtual 81, 3) := by decide +kernel
theorem dX7_isToCome_6 : decode cX7_isToCome 6 = .ok (.aload_n 0, 1) := by decide +kernel
theorem dX7_isToCome_7 : decode cX7_isToCome 7 = .ok (.getfield 7, 3) := by decide +kernel
theorem dX7_isToCome_10 : decode cX7_isToCome 10 = .ok (.iconst 0, 1) := by decide +kernel
theorem dX7_isToCome_11 : decode cX7_isToCome 11 = .ok (.iaload, 1) := by decide +kernel
theorem dX7_isToCome_12 : decode cX7_isToCome 12 = .ok (.if_icmp .le 7, 3) := by decide +kernel
theorem dX7_isToCome_15 : decode cX7_isToCome 15 = .ok (.iconst 1, 1) := by decide +kernel
theorem dX7_isToCome_16 : decode cX7_isToCome 16 = .ok (.goto 4, 3) := by decide +kernel
theorem dX7_isToCome_19 : decode cX7_isToCome 19 = .ok (.iconst 0, 1) := by decide +kernel
theorem dX7_isToCome_20 : decode cX7_isToCome 20 = .ok (.ireturn, 1) := by decide +kernel
theorem dX7_goesTo_0 : decode cX7_goesTo 0 = .ok (.aload_n 0, 1) := by decide +kernel
theorem dX7_goesTo_1 : decode cX7_goesTo 1 = .ok (.getfield 7, 3) := by decide +kernel
theorem dX7_goesTo_4 : decode cX7_goesTo 4 = .ok (.iconst 0, 1) := by decide +kernel
theorem dX7_goesTo_5 : decode cX7_goesTo 5 = .ok (.iaload, 1) := by decide +kernel
theorem dX7_goesTo_6 : decode cX7_goesTo 6 = .ok (.iload_n 1, 1) := by decide +kernel
theorem dX7_goesTo_7 : decode cX7_goesTo 7 = .ok (.if_icmp .ge 11, 3) := by decide +kernel
theorem dX7_goesTo_10 : decode cX7_goesTo 10 = .ok (.aload_n 0, 1) := by decide +kernel
theorem dX7_goesTo_11 : decode cX7_goesTo 11 = .ok (.invokevirtual 122, 3) := by decide +kernel
theorem dX7_goesTo_14 : decode cX7_goesTo 14 = .ok (.istore_n 2, 1) := by decide +kernel
theorem dX7_goesTo_15 : decode cX7_goesTo 15 = .ok (.goto (-15), 3) := by decide +kernel
theorem dX7_goesTo_18 : decode cX7_goesTo 18 = .ok (.return_, 1) := by decide +kernel
theorem dX7_wouldBe_0 : decode cX7_wouldBe 0 = .ok (.aload_n 0, 1) := by decide +kernel
theorem dX7_wouldBe_1 : decode cX7_wouldBe 1 = .ok (.iload_n 1, 1) := by decide +kernel
theorem dX7_wouldBe_2 : decode cX7_wouldBe 2 = .ok (.invokevirtual 109, 3) := by decide +kernel
theorem dX7_wouldBe_5 : decode cX7_wouldBe 5 = .ok (.ifCond .ne 6, 3) := by decide +kernel
theorem dX7_wouldBe_8 : decode cX7_wouldBe 8 = .ok (.ldc 51, 2) := by decide +kernel
theorem dX7_wouldBe_10 : decode cX7_wouldBe 10 = .ok (.ireturn, 1) := by decide +kernel
theorem dX7_wouldBe_11 : decode cX7_wouldBe 11 = .ok (.aload_n 0, 1) := by decide +kernel
theorem dX7_wouldBe_12 : decode cX7_wouldBe 12 = .ok (.iload_n 1, 1) := by decide +kernel
theorem dX7_wouldBe_13 : decode cX7_wouldBe 13 = .ok (.invokevirtual 131, 3) := by decide +kernel
theorem dX7_wouldBe_16 : decode cX7_wouldBe 16 = .ok (.ifCond .ne 6, 3) := by decide +kernel
theorem dX7_wouldBe_19 : decode cX7_wouldBe 19 = .ok (.ldc 33, 2) := by decide +kernel
theorem dX7_wouldBe_21 : decode cX7_wouldBe 21 = .ok (.ireturn, 1) := by decide +kernel
theorem dX7_wouldBe_22 : decode cX7_wouldBe 22 = .ok (.aload_n 0, 1) := by decide +kernel
theorem dX7_wouldBe_23 : decode cX7_wouldBe 23 = .ok (.getfield 7, 3) := by decide +kernel
theorem dX7_wouldBe_26 : decode cX7_wouldBe 26 = .ok (.iconst 1, 1) := by decide +kernel
theorem dX7_wouldBe_27 : decode cX7_wouldBe 27 = .ok (.iaload, 1) := by decide +kernel
theorem dX7_wouldBe_28 : decode cX7_wouldBe 28 = .ok (.ifCond .ne 6, 3) := by decide +kernel
theorem dX7_wouldBe_31 : decode cX7_wouldBe 31 = .ok (.ldc 70, 2) := by decide +kernel
theorem dX7_wouldBe_33 : decode cX7_wouldBe 33 = .ok (.ireturn, 1) := by decide +kernel
theorem dX7_wouldBe_34 : decode cX7_wouldBe 34 = .ok (.aload_n 0, 1) := by decide +kernel
theorem dX7_wouldBe_35 : decode cX7_wouldBe 35 = .ok (.invokevirtual 134, 3) := by decide +kernel
theorem dX7_wouldBe_38 : decode cX7_wouldBe 38 = .ok (.aload_n 0, 1) := by decide +kernel
theorem dX7_wouldBe_39 : decode cX7_wouldBe 39 = .ok (.aload_n 0, 1) := by decide +kernel
theorem dX7_wouldBe_40 : decode cX7_wouldBe 40 = .ok (.iload_n 1, 1) := by decide +kernel
theorem dX7_wouldBe_41 : decode cX7_wouldBe 41 = .ok (.iconst 0, 1) := by decide +kernel
theorem dX7_wouldBe_42 : decode cX7_wouldBe 42 = .ok (.invokevirtual 81, 3) := by decide +kernel
theorem dX7_wouldBe_45 : decode cX7_wouldBe 45 = .ok (.invokevirtual 137, 3) := by decide +kernel
theorem dX7_wouldBe_48 : decode cX7_wouldBe 48 = .ok (.aload_n 0, 1) := by decide +kernel
theorem dX7_wouldBe_49 : decode cX7_wouldBe 49 = .ok (.iload_n 1, 1) := by decide +kernel
theorem dX7_wouldBe_50 : decode cX7_wouldBe 50 = .ok (.iconst 4, 1) := by decide +kernel
theorem dX7_wouldBe_51 : decode cX7_wouldBe 51 = .ok (.invokevirtual 81, 3) := by decide +kernel
theorem dX7_wouldBe_54 : decode cX7_wouldBe 54 = .ok (.istore_n 2, 1) := by decide +kernel
theorem dX7_wouldBe_55 : decode cX7_wouldBe 55 = .ok (.aload_n 0, 1) := by decide +kernel
theorem dX7_wouldBe_56 : decode cX7_wouldBe 56 = .ok (.invokevirtual 140, 3) := by decide +kernel
theorem dX7_wouldBe_59 : decode cX7_wouldBe 59 = .ok (.iload_n 2, 1) := by decide +kernel
theorem dX7_wouldBe_60 : decode cX7_wouldBe 60 = .ok (.ireturn, 1) := by decide +kernel
theorem dX7_firstFalse_0 : decode cX7_firstFalse 0 = .ok (.aload_n 0, 1) := by decide +kernel
theorem dX7_firstFalse_1 : decode cX7_firstFalse 1 = .ok (.invokevirtual 134, 3) := by decide +kernel
theorem dX7_firstFalse_4 : decode cX7_firstFalse 4 = .ok (.ldc 70, 2) := by decide +kernel
theorem dX7_firstFalse_6 : decode cX7_firstFalse 6 = .ok (.istore_n 1, 1) := by decide +kernel
theorem dX7_firstFalse_7 : decode cX7_firstFalse 7 = .ok (.aload_n 0, 1) := by decide +kernel
theorem dX7_firstFalse_8 : decode cX7_firstFalse 8 = .ok (.getfield 7, 3) := by decide +kernel
theorem dX7_firstFalse_11 : decode cX7_firstFalse 11 = .ok (.iconst 1, 1) := by decide +kernel
theorem dX7_firstFalse_12 : decode cX7_firstFalse 12 = .ok (.iaload, 1) := by decide +kernel
theorem dX7_firstFalse_13 : decode cX7_firstFalse 13 = .ok (.ifCond .le 47, 3) := by decide +kernel
theorem dX7_firstFalse_16 : decode cX7_firstFalse 16 = .ok (.aload_n 0, 1) := by decide +kernel
theorem dX7_firstFalse_17 : decode cX7_firstFalse 17 = .ok (.getfield 7, 3) := by decide +kernel
theorem dX7_firstFalse_20 : decode cX7_firstFalse 20 = .ok (.iconst 0, 1) := by decide +kernel
theorem dX7_firstFalse_21 : decode cX7_firstFalse 21 = .ok (.iaload, 1) := by decide +kernel
theorem dX7_firstFalse_22 : decode cX7_firstFalse 22 = .ok (.sipush 3600, 3) := by decide +kernel
theorem dX7_firstFalse_25 : decode cX7_firstFalse 25 = .ok (.if_icmp .ge 35, 3) := by decide +kernel
theorem dX7_firstFalse_28 : decode cX7_firstFalse 28 = .ok (.iload_n 1, 1) := by decide +kernel
theorem dX7_firstFalse_29 : decode cX7_firstFalse 29 = .ok (.ifCond .ge 31, 3) := by decide +kernel
theorem dX7_firstFalse_32 : decode cX7_firstFalse 32 = .ok (.aload_n 0, 1) := by decide +kernel
theorem dX7_firstFalse_33 : decode cX7_firstFalse 33 = .ok (.invokevirtual 122, 3) := by decide +kernel
theorem dX7_firstFalse_36 : decode cX7_firstFalse 36 = .ok (.istore_n 2, 1) := by decide +kernel
theorem dX7_firstFalse_37 : decode cX7_firstFalse 37 = .ok (.iload_n 2, 1) := by decide +kernel
theorem dX7_firstFalse_38 : decode cX7_firstFalse 38 = .ok (.ifCond .lt 16, 3) := by decide +kernel
theorem dX7_firstFalse_41 : decode cX7_firstFalse 41 = .ok (.aload_n 0, 1) := by decide +kernel
theorem dX7_firstFalse_42 : decode cX7_firstFalse 42 = .ok (.iload_n 2, 1) := by decide +kernel
theorem dX7_firstFalse_43 : decode cX7_firstFalse 43 = .ok (.iconst 5, 1) := by decide +kernel
theorem dX7_firstFalse_44 : decode cX7_firstFalse 44 = .ok (.invokevirtual 81, 3) := by decide +kernel
theorem dX7_firstFalse_47 : decode cX7_firstFalse 47 = .ok (.ifCond .ne 7, 3) := by decide +kernel
theorem dX7_firstFalse_50 : decode cX7_firstFalse 50 = .ok (.iload_n 2, 1) := by decide +kernel
theorem dX7_firstFalse_51 : decode cX7_firstFalse 51 = .ok (.goto 5, 3) := by decide +kernel
theorem dX7_firstFalse_54 : decode cX7_firstFalse 54 = .ok (.ldc 70, 2) := by decide +kernel
theorem dX7_firstFalse_56 : decode cX7_firstFalse 56 = .ok (.istore_n 1, 1) := by decide +kernel
theorem dX7_firstFalse_57 : decode cX7_firstFalse 57 = .ok (.goto (-50), 3) := by decide +kernel
theorem dX7_firstFalse_60 : decode cX7_firstFalse 60 = .ok (.aload_n 0, 1) := by decide +kernel
theorem dX7_firstFalse_61 : decode cX7_firstFalse 61 = .ok (.invokevirtual 140, 3) := by decide +kernel
theorem dX7_firstFalse_64 : decode cX7_firstFalse 64 = .ok (.iload_n 1, 1) := by decide +kernel
theorem dX7_firstFalse_65 : decode cX7_firstFalse 65 = .ok (.ireturn, 1) := by decide +kernel
theorem dX7_leastTolerance_0 : decode cX7_leastTolerance 0 = .ok (.aload_n 0, 1) := by decide +kernel
theorem dX7_leastTolerance_1 : decode cX7_leastTolerance 1 = .ok (.invokevirtual 134, 3) := by decide +kernel
theorem dX7_leastTolerance_4 : decode cX7_leastTolerance 4 = .ok (.ldc 70, 2) := by decide +kernel
theorem dX7_leastTolerance_6 : decode cX7_leastTolerance 6 = .ok (.istore_n 1, 1) := by decide +kernel
theorem dX7_leastTolerance_7 : decode cX7_leastTolerance 7 = .ok (.aload_n 0, 1) := by decide +kernel
theorem dX7_leastTolerance_8 : decode cX7_leastTolerance 8 = .ok (.getfield 7, 3) := by decide +kernel
theorem dX7_leastTolerance_11 : decode cX7_leastTolerance 11 = .ok (.iconst 1, 1) := by decide +kernel
theorem dX7_leastTolerance_12 : decode cX7_leastTolerance 12 = .ok (.iaload, 1) := by decide +kernel
theorem dX7_leastTolerance_13 : decode cX7_leastTolerance 13 = .ok (.ifCond .le 54, 3) := by decide +kernel
theorem dX7_leastTolerance_16 : decode cX7_leastTolerance 16 = .ok (.aload_n 0, 1) := by decide +kernel
theorem dX7_leastTolerance_17 : decode cX7_leastTolerance 17 = .ok (.getfield 7, 3) := by decide +kernel
theorem dX7_leastTolerance_20 : decode cX7_leastTolerance 20 = .ok (.iconst 0, 1) := by decide +kernel
theorem dX7_leastTolerance_21 : decode cX7_leastTolerance 21 = .ok (.iaload, 1) := by decide +kernel
theorem dX7_leastTolerance_22 : decode cX7_leastTolerance 22 = .ok (.sipush 3600, 3) := by decide +kernel
theorem dX7_leastTolerance_25 : decode cX7_leastTolerance 25 = .ok (.if_icmp .ge 42, 3) := by decide +kernel
theorem dX7_leastTolerance_28 : decode cX7_leastTolerance 28 = .ok (.aload_n 0, 1) := by decide +kernel
theorem dX7_leastTolerance_29 : decode cX7_leastTolerance 29 = .ok (.invokevirtual 122, 3) := by decide +kernel
theorem dX7_leastTolerance_32 : decode cX7_leastTolerance 32 = .ok (.istore_n 2, 1) := by decide +kernel
theorem dX7_leastTolerance_33 : decode cX7_leastTolerance 33 = .ok (.iload_n 2, 1) := by decide +kernel
theorem dX7_leastTolerance_34 : decode cX7_leastTolerance 34 = .ok (.ifCond .lt 28, 3) := by decide +kernel
theorem dX7_leastTolerance_37 : decode cX7_leastTolerance 37 = .ok (.aload_n 0, 1) := by decide +kernel
theorem dX7_leastTolerance_38 : decode cX7_leastTolerance 38 = .ok (.iload_n 2, 1) := by decide +kernel
theorem dX7_leastTolerance_39 : decode cX7_leastTolerance 39 = .ok (.iconst 4, 1) := by decide +kernel
theorem dX7_leastTolerance_40 : decode cX7_leastTolerance 40 = .ok (.invokevirtual 81, 3) := by decide +kernel
theorem dX7_leastTolerance_43 : decode cX7_leastTolerance 43 = .ok (.invokestatic 67, 3) := by decide +kernel
theorem dX7_leastTolerance_46 : decode cX7_leastTolerance 46 = .ok (.iload_n 1, 1) := by decide +kernel
theorem dX7_leastTolerance_47 : decode cX7_leastTolerance 47 = .ok (.if_icmp .le 15, 3) := by decide +kernel
theorem dX7_leastTolerance_50 : decode cX7_leastTolerance 50 = .ok (.aload_n 0, 1) := by decide +kernel
theorem dX7_leastTolerance_51 : decode cX7_leastTolerance 51 = .ok (.iload_n 2, 1) := by decide +kernel
theorem dX7_leastTolerance_52 : decode cX7_leastTolerance 52 = .ok (.iconst 4, 1) := by decide +kernel
theorem dX7_leastTolerance_53 : decode cX7_leastTolerance 53 = .ok (.invokevirtual 81, 3) := by decide +kernel
theorem dX7_leastTolerance_56 : decode cX7_leastTolerance 56 = .ok (.invokestatic 67, 3) := by decide +kernel
theorem dX7_leastTolerance_59 : decode cX7_leastTolerance 59 = .ok (.goto 4, 3) := by decide +kernel
theorem dX7_leastTolerance_62 : decode cX7_leastTolerance 62 = .ok (.iload_n 1, 1) := by decide +kernel
theorem dX7_leastTolerance_63 : decode cX7_leastTolerance 63 = .ok (.istore_n 1, 1) := by decide +kernel
theorem dX7_leastTolerance_64 : decode cX7_leastTolerance 64 = .ok (.goto (-57), 3) := by decide +kernel
theorem dX7_leastTolerance_67 : decode cX7_leastTolerance 67 = .ok (.aload_n 0, 1) := by decide +kernel
theorem dX7_leastTolerance_68 : decode cX7_leastTolerance 68 = .ok (.invokevirtual 140, 3) := by decide +kernel
theorem dX7_leastTolerance_71 : decode cX7_leastTolerance 71 = .ok (.iload_n 1, 1) := by decide +kernel
theorem dX7_leastTolerance_72 : decode cX7_leastTolerance 72 = .ok (.ireturn, 1) := by decide +kernel
theorem dX7_pitchAt_0 : decode cX7_pitchAt 0 = .ok (.aload_n 0, 1) := by decide +kernel
theorem dX7_pitchAt_1 : decode cX7_pitchAt 1 = .ok (.iload_n 1, 1) := by decide +kernel
theorem dX7_pitchAt_2 : decode cX7_pitchAt 2 = .ok (.invokevirtual 56, 3) := by decide +kernel
theorem dX7_pitchAt_5 : decode cX7_pitchAt 5 = .ok (.ifCond .eq 19, 3) := by decide +kernel
theorem dX7_pitchAt_8 : decode cX7_pitchAt 8 = .ok (.iload_n 2, 1) := by decide +kernel
theorem dX7_pitchAt_9 : decode cX7_pitchAt 9 = .ok (.aload_n 0, 1) := by decide +kernel
theorem dX7_pitchAt_10 : decode cX7_pitchAt 10 = .ok (.getfield 7, 3) := by decide +kernel
theorem dX7_pitchAt_13 : decode cX7_pitchAt 13 = .ok (.iconst 0, 1) := by decide +kernel
theorem dX7_pitchAt_14 : decode cX7_pitchAt 14 = .ok (.iaload, 1) := by decide +kernel
theorem dX7_pitchAt_15 : decode cX7_pitchAt 15 = .ok (.sipush 3600, 3) := by decide +kernel
theorem dX7_pitchAt_18 : decode cX7_pitchAt 18 = .ok (.invokestatic 25, 3) := by decide +kernel
theorem dX7_pitchAt_21 : decode cX7_pitchAt 21 = .ok (.ifCond .ne 6, 3) := by decide +kernel
theorem dX7_pitchAt_24 : decode cX7_pitchAt 24 = .ok (.ldc 51, 2) := by decide +kernel
theorem dX7_pitchAt_26 : decode cX7_pitchAt 26 = .ok (.ireturn, 1) := by decide +kernel
theorem dX7_pitchAt_27 : decode cX7_pitchAt 27 = .ok (.aload_n 0, 1) := by decide +kernel
theorem dX7_pitchAt_28 : decode cX7_pitchAt 28 = .ok (.invokevirtual 134, 3) := by decide +kernel
theorem dX7_pitchAt_31 : decode cX7_pitchAt 31 = .ok (.aload_n 0, 1) := by decide +kernel
theorem dX7_pitchAt_32 : decode cX7_pitchAt 32 = .ok (.iload_n 2, 1) := by decide +kernel
theorem dX7_pitchAt_33 : decode cX7_pitchAt 33 = .ok (.invokevirtual 137, 3) := by decide +kernel
theorem dX7_pitchAt_36 : decode cX7_pitchAt 36 = .ok (.aload_n 0, 1) := by decide +kernel
theorem dX7_pitchAt_37 : decode cX7_pitchAt 37 = .ok (.iload_n 1, 1) := by decide +kernel
theorem dX7_pitchAt_38 : decode cX7_pitchAt 38 = .ok (.invokevirtual 64, 3) := by decide +kernel
theorem dX7_pitchAt_41 : decode cX7_pitchAt 41 = .ok (.istore_n 3, 1) := by decide +kernel
theorem dX7_pitchAt_42 : decode cX7_pitchAt 42 = .ok (.aload_n 0, 1) := by decide +kernel
theorem dX7_pitchAt_43 : decode cX7_pitchAt 43 = .ok (.invokevirtual 140, 3) := by decide +kernel
theorem dX7_pitchAt_46 : decode cX7_pitchAt 46 = .ok (.iload_n 3, 1) := by decide +kernel
theorem dX7_pitchAt_47 : decode cX7_pitchAt 47 = .ok (.ireturn, 1) := by decide +kernel
theorem dX7_type_0 : decode cX7_type 0 = .ok (.iload_n 1, 1) := by decide +kernel
theorem dX7_type_1 : decode cX7_type 1 = .ok (.bipush 32, 2) := by decide +kernel
theorem dX7_type_3 : decode cX7_type 3 = .ok (.bipush 126, 2) := by decide +kernel
theorem dX7_type_5 : decode cX7_type 5 = .ok (.invokestatic 25, 3) := by decide +kernel
theorem dX7_type_8 : decode cX7_type 8 = .ok (.ifCond .ne 6, 3) := by decide +kernel
theorem dX7_type_11 : decode cX7_type 11 = .ok (.ldc 51, 2) := by decide +kernel
theorem dX7_type_13 : decode cX7_type 13 = .ok (.ireturn, 1) := by decide +kernel
theorem dX7_type_14 : decode cX7_type 14 = .ok (.aload_n 0, 1) := by decide +kernel
theorem dX7_type_15 : decode cX7_type 15 = .ok (.getfield 90, 3) := by decide +kernel
theorem dX7_type_18 : decode cX7_type 18 = .ok (.bipush 100, 2) := by decide +kernel
theorem dX7_type_20 : decode cX7_type 20 = .ok (.if_icmp .ne 6, 3) := by decide +kernel
theorem dX7_type_23 : decode cX7_type 23 = .ok (.ldc 52, 2) := by decide +kernel
theorem dX7_type_25 : decode cX7_type 25 = .ok (.ireturn, 1) := by decide +kernel
theorem dX7_type_26 : decode cX7_type 26 = .ok (.aload_n 0, 1) := by decide +kernel
theorem dX7_type_27 : decode cX7_type 27 = .ok (.getfield 19, 3) := by decide +kernel
theorem dX7_type_30 : decode cX7_type 30 = .ok (.aload_n 0, 1) := by decide +kernel
theorem dX7_type_31 : decode cX7_type 31 = .ok (.getfield 90, 3) := by decide +kernel
theorem dX7_type_34 : decode cX7_type 34 = .ok (.iload_n 1, 1) := by decide +kernel
theorem dX7_type_35 : decode cX7_type 35 = .ok (.iastore, 1) := by decide +kernel
theorem dX7_type_36 : decode cX7_type 36 = .ok (.aload_n 0, 1) := by decide +kernel
theorem dX7_type_37 : decode cX7_type 37 = .ok (.dup, 1) := by decide +kernel
theorem dX7_type_38 : decode cX7_type 38 = .ok (.getfield 90, 3) := by decide +kernel
theorem dX7_type_41 : decode cX7_type 41 = .ok (.iconst 1, 1) := by decide +kernel
theorem dX7_type_42 : decode cX7_type 42 = .ok (.iadd, 1) := by decide +kernel
theorem dX7_type_43 : decode cX7_type 43 = .ok (.putfield 90, 3) := by decide +kernel
theorem dX7_type_46 : decode cX7_type 46 = .ok (.aload_n 0, 1) := by decide +kernel
theorem dX7_type_47 : decode cX7_type 47 = .ok (.getfield 90, 3) := by decide +kernel
theorem dX7_type_50 : decode cX7_type 50 = .ok (.ireturn, 1) := by decide +kernel
theorem dX7_clearText_0 : decode cX7_clearText 0 = .ok (.aload_n 0, 1) := by decide +kernel
theorem dX7_clearText_1 : decode cX7_clearText 1 = .ok (.getfield 90, 3) := by decide +kernel
theorem dX7_clearText_4 : decode cX7_clearText 4 = .ok (.istore_n 1, 1) := by decide +kernel
theorem dX7_clearText_5 : decode cX7_clearText 5 = .ok (.aload_n 0, 1) := by decide +kernel
theorem dX7_clearText_6 : decode cX7_clearText 6 = .ok (.iconst 0, 1) := by decide +kernel
theorem dX7_clearText_7 : decode cX7_clearText 7 = .ok (.putfield 90, 3) := by decide +kernel
theorem dX7_clearText_10 : decode cX7_clearText 10 = .ok (.iload_n 1, 1) := by decide +kernel
theorem dX7_clearText_11 : decode cX7_clearText 11 = .ok (.ireturn, 1) := by decide +kernel
theorem dX7_takes_0 : decode cX7_takes 0 = .ok (.aload_n 0, 1) := by decide +kernel
theorem dX7_takes_1 : decode cX7_takes 1 = .ok (.getfield 143, 3) := by decide +kernel
theorem dX7_takes_4 : decode cX7_takes 4 = .ok (.aload_n 0, 1) := by decide +kernel
theorem dX7_takes_5 : decode cX7_takes 5 = .ok (.getfield 90, 3) := by decide +kernel
theorem dX7_takes_8 : decode cX7_takes 8 = .ok (.if_icmp .ge 20, 3) := by decide +kernel
theorem dX7_takes_11 : decode cX7_takes 11 = .ok (.aload_n 0, 1) := by decide +kernel
theorem dX7_takes_12 : decode cX7_takes 12 = .ok (.getfield 19, 3) := by decide +kernel
theorem dX7_takes_15 : decode cX7_takes 15 = .ok (.aload_n 0, 1) := by decide +kernel
theorem dX7_takes_16 : decode cX7_takes 16 = .ok (.getfield 143, 3) := by decide +kernel
theorem dX7_takes_19 : decode cX7_takes 19 = .ok (.iaload, 1) := by decide +kernel
theorem dX7_takes_20 : decode cX7_takes 20 = .ok (.iload_n 1, 1) := by decide +kernel
theorem dX7_takes_21 : decode cX7_takes 21 = .ok (.if_icmp .ne 7, 3) := by decide +kernel
theorem dX7_takes_24 : decode cX7_takes 24 = .ok (.iconst 1, 1) := by decide +kernel
theorem dX7_takes_25 : decode cX7_takes 25 = .ok (.goto 4, 3) := by decide +kernel
theorem dX7_takes_28 : decode cX7_takes 28 = .ok (.iconst 0, 1) := by decide +kernel
theorem dX7_takes_29 : decode cX7_takes 29 = .ok (.istore_n 2, 1) := by decide +kernel
theorem dX7_takes_30 : decode cX7_takes 30 = .ok (.aload_n 0, 1) := by decide +kernel
theorem dX7_takes_31 : decode cX7_takes 31 = .ok (.dup, 1) := by decide +kernel
theorem dX7_takes_32 : decode cX7_takes 32 = .ok (.getfield 143, 3) := by decide +kernel
theorem dX7_takes_35 : decode cX7_takes 35 = .ok (.iload_n 2, 1) := by decide +kernel
theorem dX7_takes_36 : decode cX7_takes 36 = .ok (.ifCond .eq 7, 3) := by decide +kernel
theorem dX7_takes_39 : decode cX7_takes 39 = .ok (.iconst 1, 1) := by decide +kernel
theorem dX7_takes_40 : decode cX7_takes 40 = .ok (.goto 4, 3) := by decide +kernel
theorem dX7_takes_43 : decode cX7_takes 43 = .ok (.iconst 0, 1) := by decide +kernel
theorem dX7_takes_44 : decode cX7_takes 44 = .ok (.iadd, 1) := by decide +kernel
theorem dX7_takes_45 : decode cX7_takes 45 = .ok (.putfield 143, 3) := by decide +kernel
theorem dX7_takes_48 : decode cX7_takes 48 = .ok (.iload_n 2, 1) := by decide +kernel
theorem dX7_takes_49 : decode cX7_takes 49 = .ok (.ireturn, 1) := by decide +kernel
theorem dX7_digits_0 : decode cX7_digits 0 = .ok (.iconst 0, 1) := by decide +kernel
theorem dX7_digits_1 : decode cX7_digits 1 = .ok (.istore_n 1, 1) := by decide +kernel
theorem dX7_digits_2 : decode cX7_digits 2 = .ok (.aload_n 0, 1) := by decide +kernel
theorem dX7_digits_3 : decode cX7_digits 3 = .ok (.getfield 143, 3) := by decide +kernel
theorem dX7_digits_6 : decode cX7_digits 6 = .ok (.istore_n 2, 1) := by decide +kernel
theorem dX7_digits_7 : decode cX7_digits 7 = .ok (.aload_n 0, 1) := by decide +kernel
theorem dX7_digits_8 : decode cX7_digits 8 = .ok (.getfield 143, 3) := by decide +kernel
theorem dX7_digits_11 : decode cX7_digits 11 = .ok (.iload_n 2, 1) := by decide +kernel
theorem dX7_digits_12 : decode cX7_digits 12 = .ok (.iconst 4, 1) := by decide +kernel
theorem dX7_digits_13 : decode cX7_digits 13 = .ok (.iadd, 1) := by decide +kernel
theorem dX7_digits_14 : decode cX7_digits 14 = .ok (.if_icmp .ge 64, 3) := by decide +kernel
theorem dX7_digits_17 : decode cX7_digits 17 = .ok (.aload_n 0, 1) := by decide +kernel
theorem dX7_digits_18 : decode cX7_digits 18 = .ok (.getfield 143, 3) := by decide +kernel
theorem dX7_digits_21 : decode cX7_digits 21 = .ok (.aload_n 0, 1) := by decide +kernel
theorem dX7_digits_22 : decode cX7_digits 22 = .ok (.getfield 90, 3) := by decide +kernel
theorem dX7_digits_25 : decode cX7_digits 25 = .ok (.if_icmp .ge 53, 3) := by decide +kernel
theorem dX7_digits_28 : decode cX7_digits 28 = .ok (.aload_n 0, 1) := by decide +kernel
theorem dX7_digits_29 : decode cX7_digits 29 = .ok (.getfield 19, 3) := by decide +kernel
theorem dX7_digits_32 : decode cX7_digits 32 = .ok (.aload_n 0, 1) := by decide +kernel
theorem dX7_digits_33 : decode cX7_digits 33 = .ok (.getfield 143, 3) := by decide +kernel
theorem dX7_digits_36 : decode cX7_digits 36 = .ok (.iaload, 1) := by decide +kernel
theorem dX7_digits_37 : decode cX7_digits 37 = .ok (.bipush 48, 2) := by decide +kernel
theorem dX7_digits_39 : decode cX7_digits 39 = .ok (.bipush 57, 2) := by decide +kernel
theorem dX7_digits_41 : decode cX7_digits 41 = .ok (.invokestatic 25, 3) := by decide +kernel
theorem dX7_digits_44 : decode cX7_digits 44 = .ok (.ifCond .eq 34, 3) := by decide +kernel
theorem dX7_digits_47 : decode cX7_digits 47 = .ok (.bipush 10, 2) := by decide +kernel
theorem dX7_digits_49 : decode cX7_digits 49 = .ok (.iload_n 1, 1) := by decide +kernel
theorem dX7_digits_50 : decode cX7_digits 50 = .ok (.imul, 1) := by decide +kernel
theorem dX7_digits_51 : decode cX7_digits 51 = .ok (.aload_n 0, 1) := by decide +kernel
theorem dX7_digits_52 : decode cX7_digits 52 = .ok (.getfield 19, 3) := by decide +kernel
theorem dX7_digits_55 : decode cX7_digits 55 = .ok (.aload_n 0, 1) := by decide +kernel
theorem dX7_digits_56 : decode cX7_digits 56 = .ok (.getfield 143, 3) := by decide +kernel
theorem dX7_digits_59 : decode cX7_digits 59 = .ok (.iaload, 1) := by decide +kernel
theorem dX7_digits_60 : decode cX7_digits 60 = .ok (.iadd, 1) := by decide +kernel
theorem dX7_digits_61 : decode cX7_digits 61 = .ok (.bipush 48, 2) := by decide +kernel
theorem dX7_digits_63 : decode cX7_digits 63 = .ok (.isub, 1) := by decide +kernel
theorem dX7_digits_64 : decode cX7_digits 64 = .ok (.istore_n 1, 1) := by decide +kernel
theorem dX7_digits_65 : decode cX7_digits 65 = .ok (.aload_n 0, 1) := by decide +kernel
theorem dX7_digits_66 : decode cX7_digits 66 = .ok (.dup, 1) := by decide +kernel
theorem dX7_digits_67 : decode cX7_digits 67 = .ok (.getfield 143, 3) := by decide +kernel
theorem dX7_digits_70 : decode cX7_digits 70 = .ok (.iconst 1, 1) := by decide +kernel
theorem dX7_digits_71 : decode cX7_digits 71 = .ok (.iadd, 1) := by decide +kernel
theorem dX7_digits_72 : decode cX7_digits 72 = .ok (.putfield 143, 3) := by decide +kernel
theorem dX7_digits_75 : decode cX7_digits 75 = .ok (.goto (-68), 3) := by decide +kernel
theorem dX7_digits_78 : decode cX7_digits 78 = .ok (.aload_n 0, 1) := by decide +kernel
theorem dX7_digits_79 : decode cX7_digits 79 = .ok (.getfield 143, 3) := by decide +kernel
theorem dX7_digits_82 : decode cX7_digits 82 = .ok (.iload_n 2, 1) := by decide +kernel
theorem dX7_digits_83 : decode cX7_digits 83 = .ok (.if_icmp .ne 7, 3) := by decide +kernel
theorem dX7_digits_86 : decode cX7_digits 86 = .ok (.iconst (-1), 1) := by decide +kernel
theorem dX7_digits_87 : decode cX7_digits 87 = .ok (.goto 4, 3) := by decide +kernel
theorem dX7_digits_90 : decode cX7_digits 90 = .ok (.iload_n 1, 1) := by decide +kernel
theorem dX7_digits_91 : decode cX7_digits 91 = .ok (.ireturn, 1) := by decide +kernel
theorem dX7_isFormed_0 : decode cX7_isFormed 0 = .ok (.aload_n 0, 1) := by decide +kernel
theorem dX7_isFormed_1 : decode cX7_isFormed 1 = .ok (.aload_n 0, 1) := by decide +kernel
theorem dX7_isFormed_2 : decode cX7_isFormed 2 = .ok (.invokevirtual 146, 3) := by decide +kernel
theorem dX7_isFormed_5 : decode cX7_isFormed 5 = .ok (.putfield 149, 3) := by decide +kernel
theorem dX7_isFormed_8 : decode cX7_isFormed 8 = .ok (.aload_n 0, 1) := by decide +kernel
theorem dX7_isFormed_9 : decode cX7_isFormed 9 = .ok (.getfield 149, 3) := by decide +kernel
theorem dX7_isFormed_12 : decode cX7_isFormed 12 = .ok (.ifCond .lt 12, 3) := by decide +kernel
theorem dX7_isFormed_15 : decode cX7_isFormed 15 = .ok (.aload_n 0, 1) := by decide +kernel
theorem dX7_isFormed_16 : decode cX7_isFormed 16 = .ok (.bipush 58, 2) := by decide +kernel
theorem dX7_isFormed_18 : decode cX7_isFormed 18 = .ok (.invokevirtual 152, 3) := by decide +kernel
theorem dX7_isFormed_21 : decode cX7_isFormed 21 = .ok (.ifCond .ne 5, 3) := by decide +kernel
theorem dX7_isFormed_24 : decode cX7_isFormed 24 = .ok (.iconst 0, 1) := by decide +kernel
theorem dX7_isFormed_25 : decode cX7_isFormed 25 = .ok (.ireturn, 1) := by decide +kernel
theorem dX7_isFormed_26 : decode cX7_isFormed 26 = .ok (.aload_n 0, 1) := by decide +kernel
theorem dX7_isFormed_27 : decode cX7_isFormed 27 = .ok (.aload_n 0, 1) := by decide +kernel
theorem dX7_isFormed_28 : decode cX7_isFormed 28 = .ok (.invokevirtual 146, 3) := by decide +kernel
theorem dX7_isFormed_31 : decode cX7_isFormed 31 = .ok (.putfield 155, 3) := by decide +kernel
theorem dX7_isFormed_34 : decode cX7_isFormed 34 = .ok (.aload_n 0, 1) := by decide +kernel
theorem dX7_isFormed_35 : decode cX7_isFormed 35 = .ok (.getfield 155, 3) := by decide +kernel
theorem dX7_isFormed_38 : decode cX7_isFormed 38 = .ok (.ifCond .lt 16, 3) := by decide +kernel
theorem dX7_isFormed_41 : decode cX7_isFormed 41 = .ok (.aload_n 0, 1) := by decide +kernel
theorem dX7_isFormed_42 : decode cX7_isFormed 42 = .ok (.bipush 59, 2) := by decide +kernel
theorem dX7_isFormed_44 : decode cX7_isFormed 44 = .ok (.invokevirtual 152, 3) := by decide +kernel
theorem dX7_isFormed_47 : decode cX7_isFormed 47 = .ok (.ifCond .eq 7, 3) := by decide +kernel
theorem dX7_isFormed_50 : decode cX7_isFormed 50 = .ok (.iconst 1, 1) := by decide +kernel
theorem dX7_isFormed_51 : decode cX7_isFormed 51 = .ok (.goto 4, 3) := by decide +kernel
theorem dX7_isFormed_54 : decode cX7_isFormed 54 = .ok (.iconst 0, 1) := by decide +kernel
theorem dX7_isFormed_55 : decode cX7_isFormed 55 = .ok (.ireturn, 1) := by decide +kernel
theorem dX7_isTaken_0 : decode cX7_isTaken 0 = .ok (.aload_n 0, 1) := by decide +kernel
theorem dX7_isTaken_1 : decode cX7_isTaken 1 = .ok (.aload_n 0, 1) := by decide +kernel
theorem dX7_isTaken_2 : decode cX7_isTaken 2 = .ok (.getfield 149, 3) := by decide +kernel
theorem dX7_isTaken_5 : decode cX7_isTaken 5 = .ok (.invokevirtual 103, 3) := by decide +kernel
theorem dX7_isTaken_8 : decode cX7_isTaken 8 = .ok (.ifCond .lt 7, 3) := by decide +kernel
theorem dX7_isTaken_11 : decode cX7_isTaken 11 = .ok (.iconst 1, 1) := by decide +kernel
theorem dX7_isTaken_12 : decode cX7_isTaken 12 = .ok (.goto 4, 3) := by decide +kernel
theorem dX7_isTaken_15 : decode cX7_isTaken 15 = .ok (.iconst 0, 1) := by decide +kernel
theorem dX7_isTaken_16 : decode cX7_isTaken 16 = .ok (.istore_n 2, 1) := by decide +kernel
theorem dX7_isTaken_17 : decode cX7_isTaken 17 = .ok (.iconst 0, 1) := by decide +kernel
theorem dX7_isTaken_18 : decode cX7_isTaken 18 = .ok (.istore_n 3, 1) := by decide +kernel
theorem dX7_isTaken_19 : decode cX7_isTaken 19 = .ok (.iload_n 3, 1) := by decide +kernel
theorem dX7_isTaken_20 : decode cX7_isTaken 20 = .ok (.iload_n 1, 1) := by decide +kernel
theorem dX7_isTaken_21 : decode cX7_isTaken 21 = .ok (.if_icmp .ge 32, 3) := by decide +kernel
theorem dX7_isTaken_24 : decode cX7_isTaken 24 = .ok (.iload_n 2, 1) := by decide +kernel
theorem dX7_isTaken_25 : decode cX7_isTaken 25 = .ok (.ifCond .ne 16, 3) := by decide +kernel
theorem dX7_isTaken_28 : decode cX7_isTaken 28 = .ok (.aload_n 0, 1) := by decide +kernel
theorem dX7_isTaken_29 : decode cX7_isTaken 29 = .ok (.getfield 22, 3) := by decide +kernel
theorem dX7_isTaken_32 : decode cX7_isTaken 32 = .ok (.iload_n 3, 1) := by decide +kernel
theorem dX7_isTaken_33 : decode cX7_isTaken 33 = .ok (.iaload, 1) := by decide +kernel
theorem dX7_isTaken_34 : decode cX7_isTaken 34 = .ok (.aload_n 0, 1) := by decide +kernel
theorem dX7_isTaken_35 : decode cX7_isTaken 35 = .ok (.getfield 149, 3) := by decide +kernel
theorem dX7_isTaken_38 : decode cX7_isTaken 38 = .ok (.if_icmp .ne 7, 3) := by decide +kernel
theorem dX7_isTaken_41 : decode cX7_isTaken 41 = .ok (.iconst 1, 1) := by decide +kernel
theorem dX7_isTaken_42 : decode cX7_isTaken 42 = .ok (.goto 4, 3) := by decide +kernel
theorem dX7_isTaken_45 : decode cX7_isTaken 45 = .ok (.iconst 0, 1) := by decide +kernel
theorem dX7_isTaken_46 : decode cX7_isTaken 46 = .ok (.istore_n 2, 1) := by decide +kernel
theorem dX7_isTaken_47 : decode cX7_isTaken 47 = .ok (.iinc 3 1, 3) := by decide +kernel
theorem dX7_isTaken_50 : decode cX7_isTaken 50 = .ok (.goto (-31), 3) := by decide +kernel
theorem dX7_isTaken_53 : decode cX7_isTaken 53 = .ok (.iload_n 2, 1) := by decide +kernel
theorem dX7_isTaken_54 : decode cX7_isTaken 54 = .ok (.ireturn, 1) := by decide +kernel
theorem dX7_reasonOfText_0 : decode cX7_reasonOfText 0 = .ok (.aload_n 0, 1) := by decide +kernel
theorem dX7_reasonOfText_1 : decode cX7_reasonOfText 1 = .ok (.iconst 0, 1) := by decide +kernel
theorem dX7_reasonOfText_2 : decode cX7_reasonOfText 2 = .ok (.putfield 143, 3) := by decide +kernel
theorem dX7_reasonOfText_5 : decode cX7_reasonOfText 5 = .ok (.iconst 0, 1) := by decide +kernel
theorem dX7_reasonOfText_6 : decode cX7_reasonOfText 6 = .ok (.istore_n 1, 1) := by decide +kernel
theorem dX7_reasonOfText_7 : decode cX7_reasonOfText 7 = .ok (.aload_n 0, 1) := by decide +kernel
theorem dX7_reasonOfText_8 : decode cX7_reasonOfText 8 = .ok (.getfield 143, 3) := by decide +kernel
theorem dX7_reasonOfText_11 : decode cX7_reasonOfText 11 = .ok (.aload_n 0, 1) := by decide +kernel
theorem dX7_reasonOfText_12 : decode cX7_reasonOfText 12 = .ok (.getfield 90, 3) := by decide +kernel
theorem dX7_reasonOfText_15 : decode cX7_reasonOfText 15 = .ok (.if_icmp .ge 91, 3) := by decide +kernel
theorem dX7_reasonOfText_18 : decode cX7_reasonOfText 18 = .ok (.aload_n 0, 1) := by decide +kernel
theorem dX7_reasonOfText_19 : decode cX7_reasonOfText 19 = .ok (.aload_n 0, 1) := by decide +kernel
theorem dX7_reasonOfText_20 : decode cX7_reasonOfText 20 = .ok (.getfield 143, 3) := by decide +kernel
theorem dX7_reasonOfText_23 : decode cX7_reasonOfText 23 = .ok (.putfield 158, 3) := by decide +kernel
theorem dX7_reasonOfText_26 : decode cX7_reasonOfText 26 = .ok (.aload_n 0, 1) := by decide +kernel
theorem dX7_reasonOfText_27 : decode cX7_reasonOfText 27 = .ok (.invokevirtual 161, 3) := by decide +kernel
theorem dX7_reasonOfText_30 : decode cX7_reasonOfText 30 = .ok (.ifCond .ne 5, 3) := by decide +kernel
theorem dX7_reasonOfText_33 : decode cX7_reasonOfText 33 = .ok (.iconst 1, 1) := by decide +kernel
theorem dX7_reasonOfText_34 : decode cX7_reasonOfText 34 = .ok (.ireturn, 1) := by decide +kernel
theorem dX7_reasonOfText_35 : decode cX7_reasonOfText 35 = .ok (.aload_n 0, 1) := by decide +kernel
theorem dX7_reasonOfText_36 : decode cX7_reasonOfText 36 = .ok (.getfield 149, 3) := by decide +kernel
theorem dX7_reasonOfText_39 : decode cX7_reasonOfText 39 = .ok (.iconst 0, 1) := by decide +kernel
theorem dX7_reasonOfText_40 : decode cX7_reasonOfText 40 = .ok (.sipush 3600, 3) := by decide +kernel
theorem dX7_reasonOfText_43 : decode cX7_reasonOfText 43 = .ok (.invokestatic 25, 3) := by decide +kernel
theorem dX7_reasonOfText_46 : decode cX7_reasonOfText 46 = .ok (.ifCond .eq 17, 3) := by decide +kernel
theorem dX7_reasonOfText_49 : decode cX7_reasonOfText 49 = .ok (.aload_n 0, 1) := by decide +kernel
theorem dX7_reasonOfText_50 : decode cX7_reasonOfText 50 = .ok (.getfield 155, 3) := by decide +kernel
theorem dX7_reasonOfText_53 : decode cX7_reasonOfText 53 = .ok (.iconst 0, 1) := by decide +kernel
theorem dX7_reasonOfText_54 : decode cX7_reasonOfText 54 = .ok (.sipush 6000, 3) := by decide +kernel
theorem dX7_reasonOfText_57 : decode cX7_reasonOfText 57 = .ok (.invokestatic 25, 3) := by decide +kernel
theorem dX7_reasonOfText_60 : decode cX7_reasonOfText 60 = .ok (.ifCond .ne 5, 3) := by decide +kernel
theorem dX7_reasonOfText_63 : decode cX7_reasonOfText 63 = .ok (.iconst 2, 1) := by decide +kernel
theorem dX7_reasonOfText_64 : decode cX7_reasonOfText 64 = .ok (.ireturn, 1) := by decide +kernel
theorem dX7_reasonOfText_65 : decode cX7_reasonOfText 65 = .ok (.aload_n 0, 1) := by decide +kernel
theorem dX7_reasonOfText_66 : decode cX7_reasonOfText 66 = .ok (.iload_n 1, 1) := by decide +kernel
theorem dX7_reasonOfText_67 : decode cX7_reasonOfText 67 = .ok (.invokevirtual 165, 3) := by decide +kernel
theorem dX7_reasonOfText_70 : decode cX7_reasonOfText 70 = .ok (.ifCond .eq 5, 3) := by decide +kernel
theorem dX7_reasonOfText_73 : decode cX7_reasonOfText 73 = .ok (.iconst 3, 1) := by decide +kernel
theorem dX7_reasonOfText_74 : decode cX7_reasonOfText 74 = .ok (.ireturn, 1) := by decide +kernel
theorem dX7_reasonOfText_75 : decode cX7_reasonOfText 75 = .ok (.aload_n 0, 1) := by decide +kernel
theorem dX7_reasonOfText_76 : decode cX7_reasonOfText 76 = .ok (.getfield 7, 3) := by decide +kernel
theorem dX7_reasonOfText_79 : decode cX7_reasonOfText 79 = .ok (.iconst 2, 1) := by decide +kernel
theorem dX7_reasonOfText_80 : decode cX7_reasonOfText 80 = .ok (.iaload, 1) := by decide +kernel
theorem dX7_reasonOfText_81 : decode cX7_reasonOfText 81 = .ok (.iload_n 1, 1) := by decide +kernel
theorem dX7_reasonOfText_82 : decode cX7_reasonOfText 82 = .ok (.iadd, 1) := by decide +kernel
theorem dX7_reasonOfText_83 : decode cX7_reasonOfText 83 = .ok (.bipush 40, 2) := by decide +kernel
theorem dX7_reasonOfText_85 : decode cX7_reasonOfText 85 = .ok (.if_icmp .ne 5, 3) := by decide +kernel
theorem dX7_reasonOfText_88 : decode cX7_reasonOfText 88 = .ok (.iconst 4, 1) := by decide +kernel
theorem dX7_reasonOfText_89 : decode cX7_reasonOfText 89 = .ok (.ireturn, 1) := by decide +kernel
theorem dX7_reasonOfText_90 : decode cX7_reasonOfText 90 = .ok (.aload_n 0, 1) := by decide +kernel
theorem dX7_reasonOfText_91 : decode cX7_reasonOfText 91 = .ok (.getfield 22, 3) := by decide +kernel
theorem dX7_reasonOfText_94 : decode cX7_reasonOfText 94 = .ok (.iload_n 1, 1) := by decide +kernel
theorem dX7_reasonOfText_95 : decode cX7_reasonOfText 95 = .ok (.aload_n 0, 1) := by decide +kernel
theorem dX7_reasonOfText_96 : decode cX7_reasonOfText 96 = .ok (.getfield 149, 3) := by decide +kernel
theorem dX7_reasonOfText_99 : decode cX7_reasonOfText 99 = .ok (.iastore, 1) := by decide +kernel
theorem dX7_reasonOfText_100 : decode cX7_reasonOfText 100 = .ok (.iinc 1 1, 3) := by decide +kernel
theorem dX7_reasonOfText_103 : decode cX7_reasonOfText 103 = .ok (.goto (-96), 3) := by decide +kernel
theorem dX7_reasonOfText_106 : decode cX7_reasonOfText 106 = .ok (.iconst 0, 1) := by decide +kernel
theorem dX7_reasonOfText_107 : decode cX7_reasonOfText 107 = .ok (.ireturn, 1) := by decide +kernel
theorem dX7_fault_0 : decode cX7_fault 0 = .ok (.iload_n 1, 1) := by decide +kernel
theorem dX7_fault_1 : decode cX7_fault 1 = .ok (.iconst 0, 1) := by decide +kernel
theorem dX7_fault_2 : decode cX7_fault 2 = .ok (.iconst 1, 1) := by decide +kernel
theorem dX7_fault_3 : decode cX7_fault 3 = .ok (.invokestatic 25, 3) := by decide +kernel
theorem dX7_fault_6 : decode cX7_fault 6 = .ok (.ifCond .ne 6, 3) := by decide +kernel
theorem dX7_fault_9 : decode cX7_fault 9 = .ok (.ldc 51, 2) := by decide +kernel
theorem dX7_fault_11 : decode cX7_fault 11 = .ok (.ireturn, 1) := by decide +kernel
theorem dX7_fault_12 : decode cX7_fault 12 = .ok (.aload_n 0, 1) := by decide +kernel
theorem dX7_fault_13 : decode cX7_fault 13 = .ok (.invokevirtual 168, 3) := by decide +kernel
theorem dX7_fault_16 : decode cX7_fault 16 = .ok (.istore_n 2, 1) := by decide +kernel
theorem dX7_fault_17 : decode cX7_fault 17 = .ok (.iload_n 2, 1) := by decide +kernel
theorem dX7_fault_18 : decode cX7_fault 18 = .ok (.ifCond .ne 8, 3) := by decide +kernel
theorem dX7_fault_21 : decode cX7_fault 21 = .ok (.ldc 70, 2) := by decide +kernel
theorem dX7_fault_23 : decode cX7_fault 23 = .ok (.goto 15, 3) := by decide +kernel
theorem dX7_fault_26 : decode cX7_fault 26 = .ok (.iload_n 1, 1) := by decide +kernel
theorem dX7_fault_27 : decode cX7_fault 27 = .ok (.ifCond .ne 10, 3) := by decide +kernel
theorem dX7_fault_30 : decode cX7_fault 30 = .ok (.aload_n 0, 1) := by decide +kernel
theorem dX7_fault_31 : decode cX7_fault 31 = .ok (.getfield 158, 3) := by decide +kernel
theorem dX7_fault_34 : decode cX7_fault 34 = .ok (.goto 4, 3) := by decide +kernel
theorem dX7_fault_37 : decode cX7_fault 37 = .ok (.iload_n 2, 1) := by decide +kernel
theorem dX7_fault_38 : decode cX7_fault 38 = .ok (.ireturn, 1) := by decide +kernel
theorem dX7_enter_0 : decode cX7_enter 0 = .ok (.aload_n 0, 1) := by decide +kernel
theorem dX7_enter_1 : decode cX7_enter 1 = .ok (.invokevirtual 168, 3) := by decide +kernel
theorem dX7_enter_4 : decode cX7_enter 4 = .ok (.ifCond .eq 6, 3) := by decide +kernel
theorem dX7_enter_7 : decode cX7_enter 7 = .ok (.ldc 33, 2) := by decide +kernel
theorem dX7_enter_9 : decode cX7_enter 9 = .ok (.ireturn, 1) := by decide +kernel
theorem dX7_enter_10 : decode cX7_enter 10 = .ok (.aload_n 0, 1) := by decide +kernel
theorem dX7_enter_11 : decode cX7_enter 11 = .ok (.invokevirtual 53, 3) := by decide +kernel
theorem dX7_enter_14 : decode cX7_enter 14 = .ok (.aload_n 0, 1) := by decide +kernel
theorem dX7_enter_15 : decode cX7_enter 15 = .ok (.iconst 0, 1) := by decide +kernel
theorem dX7_enter_16 : decode cX7_enter 16 = .ok (.putfield 143, 3) := by decide +kernel
theorem dX7_enter_19 : decode cX7_enter 19 = .ok (.iconst 0, 1) := by decide +kernel
theorem dX7_enter_20 : decode cX7_enter 20 = .ok (.istore_n 1, 1) := by decide +kernel
theorem dX7_enter_21 : decode cX7_enter 21 = .ok (.aload_n 0, 1) := by decide +kernel
theorem dX7_enter_22 : decode cX7_enter 22 = .ok (.getfield 143, 3) := by decide +kernel
theorem dX7_enter_25 : decode cX7_enter 25 = .ok (.aload_n 0, 1) := by decide +kernel
theorem dX7_enter_26 : decode cX7_enter 26 = .ok (.getfield 90, 3) := by decide +kernel
theorem dX7_enter_29 : decode cX7_enter 29 = .ok (.if_icmp .ge 38, 3) := by decide +kernel
theorem dX7_enter_32 : decode cX7_enter 32 = .ok (.aload_n 0, 1) := by decide +kernel
theorem dX7_enter_33 : decode cX7_enter 33 = .ok (.invokevirtual 161, 3) := by decide +kernel
theorem dX7_enter_36 : decode cX7_enter 36 = .ok (.ifCond .eq 31, 3) := by decide +kernel
theorem dX7_enter_39 : decode cX7_enter 39 = .ok (.aload_n 0, 1) := by decide +kernel
theorem dX7_enter_40 : decode cX7_enter 40 = .ok (.aload_n 0, 1) := by decide +kernel
theorem dX7_enter_41 : decode cX7_enter 41 = .ok (.getfield 149, 3) := by decide +kernel
theorem dX7_enter_44 : decode cX7_enter 44 = .ok (.aload_n 0, 1) := by decide +kernel
theorem dX7_enter_45 : decode cX7_enter 45 = .ok (.getfield 155, 3) := by decide +kernel
theorem dX7_enter_48 : decode cX7_enter 48 = .ok (.invokevirtual 106, 3) := by decide +kernel
theorem dX7_enter_51 : decode cX7_enter 51 = .ok (.istore_n 2, 1) := by decide +kernel
theorem dX7_enter_52 : decode cX7_enter 52 = .ok (.iload_n 1, 1) := by decide +kernel
theorem dX7_enter_53 : decode cX7_enter 53 = .ok (.iload_n 2, 1) := by decide +kernel
theorem dX7_enter_54 : decode cX7_enter 54 = .ok (.ifCond .lt 7, 3) := by decide +kernel
theorem dX7_enter_57 : decode cX7_enter 57 = .ok (.iconst 1, 1) := by decide +kernel
theorem dX7_enter_58 : decode cX7_enter 58 = .ok (.goto 4, 3) := by decide +kernel
theorem dX7_enter_61 : decode cX7_enter 61 = .ok (.iconst 0, 1) := by decide +kernel
theorem dX7_enter_62 : decode cX7_enter 62 = .ok (.iadd, 1) := by decide +kernel
theorem dX7_enter_63 : decode cX7_enter 63 = .ok (.istore_n 1, 1) := by decide +kernel
theorem dX7_enter_64 : decode cX7_enter 64 = .ok (.goto (-43), 3) := by decide +kernel
theorem dX7_enter_67 : decode cX7_enter 67 = .ok (.iload_n 1, 1) := by decide +kernel
theorem dX7_enter_68 : decode cX7_enter 68 = .ok (.ireturn, 1) := by decide +kernel
