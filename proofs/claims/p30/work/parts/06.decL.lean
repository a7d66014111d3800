theorem dL_part_0 : decode cL_part 0 = .ok (.iload_n 0, 1) := by decide +kernel
theorem dL_part_1 : decode cL_part 1 = .ok (.ldc 7, 2) := by decide +kernel
theorem dL_part_3 : decode cL_part 3 = .ok (.iand, 1) := by decide +kernel
theorem dL_part_4 : decode cL_part 4 = .ok (.iload_n 1, 1) := by decide +kernel
theorem dL_part_5 : decode cL_part 5 = .ok (.irem, 1) := by decide +kernel
theorem dL_part_6 : decode cL_part 6 = .ok (.ireturn, 1) := by decide +kernel
theorem dL_take_0 : decode cL_take 0 = .ok (.aload_n 0, 1) := by decide +kernel
theorem dL_take_1 : decode cL_take 1 = .ok (.arraylength, 1) := by decide +kernel
theorem dL_take_2 : decode cL_take 2 = .ok (.ifCond .ne 13, 3) := by decide +kernel
theorem dL_take_5 : decode cL_take 5 = .ok (.sipush 7919, 3) := by decide +kernel
theorem dL_take_8 : decode cL_take 8 = .ok (.iload_n 1, 1) := by decide +kernel
theorem dL_take_9 : decode cL_take 9 = .ok (.imul, 1) := by decide +kernel
theorem dL_take_10 : decode cL_take 10 = .ok (.iconst 3, 1) := by decide +kernel
theorem dL_take_11 : decode cL_take 11 = .ok (.iadd, 1) := by decide +kernel
theorem dL_take_12 : decode cL_take 12 = .ok (.goto 27, 3) := by decide +kernel
theorem dL_take_15 : decode cL_take 15 = .ok (.aload_n 0, 1) := by decide +kernel
theorem dL_take_16 : decode cL_take 16 = .ok (.iload_n 1, 1) := by decide +kernel
theorem dL_take_17 : decode cL_take 17 = .ok (.aload_n 0, 1) := by decide +kernel
theorem dL_take_18 : decode cL_take 18 = .ok (.arraylength, 1) := by decide +kernel
theorem dL_take_19 : decode cL_take 19 = .ok (.irem, 1) := by decide +kernel
theorem dL_take_20 : decode cL_take 20 = .ok (.iaload, 1) := by decide +kernel
theorem dL_take_21 : decode cL_take 21 = .ok (.iload_n 1, 1) := by decide +kernel
theorem dL_take_22 : decode cL_take 22 = .ok (.bipush 7, 2) := by decide +kernel
theorem dL_take_24 : decode cL_take 24 = .ok (.irem, 1) := by decide +kernel
theorem dL_take_25 : decode cL_take 25 = .ok (.ishr, 1) := by decide +kernel
theorem dL_take_26 : decode cL_take 26 = .ok (.iload_n 1, 1) := by decide +kernel
theorem dL_take_27 : decode cL_take 27 = .ok (.aload_n 0, 1) := by decide +kernel
theorem dL_take_28 : decode cL_take 28 = .ok (.arraylength, 1) := by decide +kernel
theorem dL_take_29 : decode cL_take 29 = .ok (.idiv, 1) := by decide +kernel
theorem dL_take_30 : decode cL_take 30 = .ok (.bipush 31, 2) := by decide +kernel
theorem dL_take_32 : decode cL_take 32 = .ok (.imul, 1) := by decide +kernel
theorem dL_take_33 : decode cL_take 33 = .ok (.ixor, 1) := by decide +kernel
theorem dL_take_34 : decode cL_take 34 = .ok (.iload_n 1, 1) := by decide +kernel
theorem dL_take_35 : decode cL_take 35 = .ok (.ldc 8, 2) := by decide +kernel
theorem dL_take_37 : decode cL_take 37 = .ok (.imul, 1) := by decide +kernel
theorem dL_take_38 : decode cL_take 38 = .ok (.ixor, 1) := by decide +kernel
theorem dL_take_39 : decode cL_take 39 = .ok (.ireturn, 1) := by decide +kernel
theorem dL_mixed_0 : decode cL_mixed 0 = .ok (.ldc2_w 9, 3) := by decide +kernel
theorem dL_mixed_3 : decode cL_mixed 3 = .ok (.lload_n 0, 1) := by decide +kernel
theorem dL_mixed_4 : decode cL_mixed 4 = .ok (.lmul, 1) := by decide +kernel
theorem dL_mixed_5 : decode cL_mixed 5 = .ok (.lload_n 2, 1) := by decide +kernel
theorem dL_mixed_6 : decode cL_mixed 6 = .ok (.ladd, 1) := by decide +kernel
theorem dL_mixed_7 : decode cL_mixed 7 = .ok (.lreturn, 1) := by decide +kernel
theorem dL_state_0 : decode cL_state 0 = .ok (.ldc2_w 11, 3) := by decide +kernel
theorem dL_state_3 : decode cL_state 3 = .ok (.lstore_n 1, 1) := by decide +kernel
theorem dL_state_4 : decode cL_state 4 = .ok (.iconst 0, 1) := by decide +kernel
theorem dL_state_5 : decode cL_state 5 = .ok (.istore_n 3, 1) := by decide +kernel
theorem dL_state_6 : decode cL_state 6 = .ok (.iload_n 3, 1) := by decide +kernel
theorem dL_state_7 : decode cL_state 7 = .ok (.bipush 25, 2) := by decide +kernel
theorem dL_state_9 : decode cL_state 9 = .ok (.if_icmp .ge 32, 3) := by decide +kernel
theorem dL_state_12 : decode cL_state 12 = .ok (.iload_n 3, 1) := by decide +kernel
theorem dL_state_13 : decode cL_state 13 = .ok (.bipush 7, 2) := by decide +kernel
theorem dL_state_15 : decode cL_state 15 = .ok (.if_icmp .eq 20, 3) := by decide +kernel
theorem dL_state_18 : decode cL_state 18 = .ok (.iload_n 3, 1) := by decide +kernel
theorem dL_state_19 : decode cL_state 19 = .ok (.bipush 8, 2) := by decide +kernel
theorem dL_state_21 : decode cL_state 21 = .ok (.if_icmp .eq 14, 3) := by decide +kernel
theorem dL_state_24 : decode cL_state 24 = .ok (.lload_n 1, 1) := by decide +kernel
theorem dL_state_25 : decode cL_state 25 = .ok (.aload_n 0, 1) := by decide +kernel
theorem dL_state_26 : decode cL_state 26 = .ok (.iload_n 3, 1) := by decide +kernel
theorem dL_state_27 : decode cL_state 27 = .ok (.invokevirtual 13, 3) := by decide +kernel
theorem dL_state_30 : decode cL_state 30 = .ok (.i2l, 1) := by decide +kernel
theorem dL_state_31 : decode cL_state 31 = .ok (.invokestatic 19, 3) := by decide +kernel
theorem dL_state_34 : decode cL_state 34 = .ok (.lstore_n 1, 1) := by decide +kernel
theorem dL_state_35 : decode cL_state 35 = .ok (.iinc 3 1, 3) := by decide +kernel
theorem dL_state_38 : decode cL_state 38 = .ok (.goto (-32), 3) := by decide +kernel
theorem dL_state_41 : decode cL_state 41 = .ok (.iconst 0, 1) := by decide +kernel
theorem dL_state_42 : decode cL_state 42 = .ok (.istore_n 3, 1) := by decide +kernel
theorem dL_state_43 : decode cL_state 43 = .ok (.iload_n 3, 1) := by decide +kernel
theorem dL_state_44 : decode cL_state 44 = .ok (.bipush 7, 2) := by decide +kernel
theorem dL_state_46 : decode cL_state 46 = .ok (.aload_n 0, 1) := by decide +kernel
theorem dL_state_47 : decode cL_state 47 = .ok (.iconst 1, 1) := by decide +kernel
theorem dL_state_48 : decode cL_state 48 = .ok (.invokevirtual 13, 3) := by decide +kernel
theorem dL_state_51 : decode cL_state 51 = .ok (.imul, 1) := by decide +kernel
theorem dL_state_52 : decode cL_state 52 = .ok (.if_icmp .ge 27, 3) := by decide +kernel
theorem dL_state_55 : decode cL_state 55 = .ok (.lload_n 1, 1) := by decide +kernel
theorem dL_state_56 : decode cL_state 56 = .ok (.aload_n 0, 1) := by decide +kernel
theorem dL_state_57 : decode cL_state 57 = .ok (.iload_n 3, 1) := by decide +kernel
theorem dL_state_58 : decode cL_state 58 = .ok (.bipush 7, 2) := by decide +kernel
theorem dL_state_60 : decode cL_state 60 = .ok (.idiv, 1) := by decide +kernel
theorem dL_state_61 : decode cL_state 61 = .ok (.iload_n 3, 1) := by decide +kernel
theorem dL_state_62 : decode cL_state 62 = .ok (.bipush 7, 2) := by decide +kernel
theorem dL_state_64 : decode cL_state 64 = .ok (.irem, 1) := by decide +kernel
theorem dL_state_65 : decode cL_state 65 = .ok (.invokevirtual 25, 3) := by decide +kernel
theorem dL_state_68 : decode cL_state 68 = .ok (.i2l, 1) := by decide +kernel
theorem dL_state_69 : decode cL_state 69 = .ok (.invokestatic 19, 3) := by decide +kernel
theorem dL_state_72 : decode cL_state 72 = .ok (.lstore_n 1, 1) := by decide +kernel
theorem dL_state_73 : decode cL_state 73 = .ok (.iinc 3 1, 3) := by decide +kernel
theorem dL_state_76 : decode cL_state 76 = .ok (.goto (-33), 3) := by decide +kernel
theorem dL_state_79 : decode cL_state 79 = .ok (.iconst 0, 1) := by decide +kernel
theorem dL_state_80 : decode cL_state 80 = .ok (.istore_n 3, 1) := by decide +kernel
theorem dL_state_81 : decode cL_state 81 = .ok (.iload_n 3, 1) := by decide +kernel
theorem dL_state_82 : decode cL_state 82 = .ok (.bipush 7, 2) := by decide +kernel
theorem dL_state_84 : decode cL_state 84 = .ok (.aload_n 0, 1) := by decide +kernel
theorem dL_state_85 : decode cL_state 85 = .ok (.iconst 2, 1) := by decide +kernel
theorem dL_state_86 : decode cL_state 86 = .ok (.invokevirtual 13, 3) := by decide +kernel
theorem dL_state_89 : decode cL_state 89 = .ok (.imul, 1) := by decide +kernel
theorem dL_state_90 : decode cL_state 90 = .ok (.if_icmp .ge 27, 3) := by decide +kernel
theorem dL_state_93 : decode cL_state 93 = .ok (.lload_n 1, 1) := by decide +kernel
theorem dL_state_94 : decode cL_state 94 = .ok (.aload_n 0, 1) := by decide +kernel
theorem dL_state_95 : decode cL_state 95 = .ok (.iload_n 3, 1) := by decide +kernel
theorem dL_state_96 : decode cL_state 96 = .ok (.bipush 7, 2) := by decide +kernel
theorem dL_state_98 : decode cL_state 98 = .ok (.idiv, 1) := by decide +kernel
theorem dL_state_99 : decode cL_state 99 = .ok (.iload_n 3, 1) := by decide +kernel
theorem dL_state_100 : decode cL_state 100 = .ok (.bipush 7, 2) := by decide +kernel
theorem dL_state_102 : decode cL_state 102 = .ok (.irem, 1) := by decide +kernel
theorem dL_state_103 : decode cL_state 103 = .ok (.invokevirtual 29, 3) := by decide +kernel
theorem dL_state_106 : decode cL_state 106 = .ok (.i2l, 1) := by decide +kernel
theorem dL_state_107 : decode cL_state 107 = .ok (.invokestatic 19, 3) := by decide +kernel
theorem dL_state_110 : decode cL_state 110 = .ok (.lstore_n 1, 1) := by decide +kernel
theorem dL_state_111 : decode cL_state 111 = .ok (.iinc 3 1, 3) := by decide +kernel
theorem dL_state_114 : decode cL_state 114 = .ok (.goto (-33), 3) := by decide +kernel
theorem dL_state_117 : decode cL_state 117 = .ok (.lload_n 1, 1) := by decide +kernel
theorem dL_state_118 : decode cL_state 118 = .ok (.lreturn, 1) := by decide +kernel
theorem dL_refusesBowls_0 : decode cL_refusesBowls 0 = .ok (.aload_n 0, 1) := by decide +kernel
theorem dL_refusesBowls_1 : decode cL_refusesBowls 1 = .ok (.iconst 1, 1) := by decide +kernel
theorem dL_refusesBowls_2 : decode cL_refusesBowls 2 = .ok (.invokevirtual 13, 3) := by decide +kernel
theorem dL_refusesBowls_5 : decode cL_refusesBowls 5 = .ok (.istore_n 1, 1) := by decide +kernel
theorem dL_refusesBowls_6 : decode cL_refusesBowls 6 = .ok (.aload_n 0, 1) := by decide +kernel
theorem dL_refusesBowls_7 : decode cL_refusesBowls 7 = .ok (.iconst (-1), 1) := by decide +kernel
theorem dL_refusesBowls_8 : decode cL_refusesBowls 8 = .ok (.iconst 1, 1) := by decide +kernel
theorem dL_refusesBowls_9 : decode cL_refusesBowls 9 = .ok (.invokevirtual 32, 3) := by decide +kernel
theorem dL_refusesBowls_12 : decode cL_refusesBowls 12 = .ok (.ldc 35, 2) := by decide +kernel
theorem dL_refusesBowls_14 : decode cL_refusesBowls 14 = .ok (.if_icmp .ne 62, 3) := by decide +kernel
theorem dL_refusesBowls_17 : decode cL_refusesBowls 17 = .ok (.aload_n 0, 1) := by decide +kernel
theorem dL_refusesBowls_18 : decode cL_refusesBowls 18 = .ok (.sipush 6001, 3) := by decide +kernel
theorem dL_refusesBowls_21 : decode cL_refusesBowls 21 = .ok (.iconst 1, 1) := by decide +kernel
theorem dL_refusesBowls_22 : decode cL_refusesBowls 22 = .ok (.invokevirtual 32, 3) := by decide +kernel
theorem dL_refusesBowls_25 : decode cL_refusesBowls 25 = .ok (.ldc 35, 2) := by decide +kernel
theorem dL_refusesBowls_27 : decode cL_refusesBowls 27 = .ok (.if_icmp .ne 49, 3) := by decide +kernel
theorem dL_refusesBowls_30 : decode cL_refusesBowls 30 = .ok (.aload_n 0, 1) := by decide +kernel
theorem dL_refusesBowls_31 : decode cL_refusesBowls 31 = .ok (.iconst 0, 1) := by decide +kernel
theorem dL_refusesBowls_32 : decode cL_refusesBowls 32 = .ok (.iconst 0, 1) := by decide +kernel
theorem dL_refusesBowls_33 : decode cL_refusesBowls 33 = .ok (.invokevirtual 32, 3) := by decide +kernel
theorem dL_refusesBowls_36 : decode cL_refusesBowls 36 = .ok (.ldc 35, 2) := by decide +kernel
theorem dL_refusesBowls_38 : decode cL_refusesBowls 38 = .ok (.if_icmp .ne 38, 3) := by decide +kernel
theorem dL_refusesBowls_41 : decode cL_refusesBowls 41 = .ok (.aload_n 0, 1) := by decide +kernel
theorem dL_refusesBowls_42 : decode cL_refusesBowls 42 = .ok (.iconst 0, 1) := by decide +kernel
theorem dL_refusesBowls_43 : decode cL_refusesBowls 43 = .ok (.sipush 2401, 3) := by decide +kernel
theorem dL_refusesBowls_46 : decode cL_refusesBowls 46 = .ok (.invokevirtual 32, 3) := by decide +kernel
theorem dL_refusesBowls_49 : decode cL_refusesBowls 49 = .ok (.ldc 35, 2) := by decide +kernel
theorem dL_refusesBowls_51 : decode cL_refusesBowls 51 = .ok (.if_icmp .ne 25, 3) := by decide +kernel
theorem dL_refusesBowls_54 : decode cL_refusesBowls 54 = .ok (.aload_n 0, 1) := by decide +kernel
theorem dL_refusesBowls_55 : decode cL_refusesBowls 55 = .ok (.iconst (-1), 1) := by decide +kernel
theorem dL_refusesBowls_56 : decode cL_refusesBowls 56 = .ok (.invokevirtual 36, 3) := by decide +kernel
theorem dL_refusesBowls_59 : decode cL_refusesBowls 59 = .ok (.ldc 35, 2) := by decide +kernel
theorem dL_refusesBowls_61 : decode cL_refusesBowls 61 = .ok (.if_icmp .ne 15, 3) := by decide +kernel
theorem dL_refusesBowls_64 : decode cL_refusesBowls 64 = .ok (.aload_n 0, 1) := by decide +kernel
theorem dL_refusesBowls_65 : decode cL_refusesBowls 65 = .ok (.sipush 6001, 3) := by decide +kernel
theorem dL_refusesBowls_68 : decode cL_refusesBowls 68 = .ok (.invokevirtual 36, 3) := by decide +kernel
theorem dL_refusesBowls_71 : decode cL_refusesBowls 71 = .ok (.ldc 35, 2) := by decide +kernel
theorem dL_refusesBowls_73 : decode cL_refusesBowls 73 = .ok (.if_icmp .eq 5, 3) := by decide +kernel
theorem dL_refusesBowls_76 : decode cL_refusesBowls 76 = .ok (.iconst 0, 1) := by decide +kernel
theorem dL_refusesBowls_77 : decode cL_refusesBowls 77 = .ok (.ireturn, 1) := by decide +kernel
theorem dL_refusesBowls_78 : decode cL_refusesBowls 78 = .ok (.iconst 0, 1) := by decide +kernel
theorem dL_refusesBowls_79 : decode cL_refusesBowls 79 = .ok (.istore_n 2, 1) := by decide +kernel
theorem dL_refusesBowls_80 : decode cL_refusesBowls 80 = .ok (.iload_n 2, 1) := by decide +kernel
theorem dL_refusesBowls_81 : decode cL_refusesBowls 81 = .ok (.iconst 2, 1) := by decide +kernel
theorem dL_refusesBowls_82 : decode cL_refusesBowls 82 = .ok (.if_icmp .ge 110, 3) := by decide +kernel
theorem dL_refusesBowls_85 : decode cL_refusesBowls 85 = .ok (.iload_n 2, 1) := by decide +kernel
theorem dL_refusesBowls_86 : decode cL_refusesBowls 86 = .ok (.ifCond .ne 7, 3) := by decide +kernel
theorem dL_refusesBowls_89 : decode cL_refusesBowls 89 = .ok (.iload_n 1, 1) := by decide +kernel
theorem dL_refusesBowls_90 : decode cL_refusesBowls 90 = .ok (.goto 4, 3) := by decide +kernel
theorem dL_refusesBowls_93 : decode cL_refusesBowls 93 = .ok (.iconst (-1), 1) := by decide +kernel
theorem dL_refusesBowls_94 : decode cL_refusesBowls 94 = .ok (.istore_n 3, 1) := by decide +kernel
theorem dL_refusesBowls_95 : decode cL_refusesBowls 95 = .ok (.aload_n 0, 1) := by decide +kernel
theorem dL_refusesBowls_96 : decode cL_refusesBowls 96 = .ok (.iload_n 3, 1) := by decide +kernel
theorem dL_refusesBowls_97 : decode cL_refusesBowls 97 = .ok (.invokevirtual 39, 3) := by decide +kernel
theorem dL_refusesBowls_100 : decode cL_refusesBowls 100 = .ok (.ldc 35, 2) := by decide +kernel
theorem dL_refusesBowls_102 : decode cL_refusesBowls 102 = .ok (.if_icmp .ne 82, 3) := by decide +kernel
theorem dL_refusesBowls_105 : decode cL_refusesBowls 105 = .ok (.aload_n 0, 1) := by decide +kernel
theorem dL_refusesBowls_106 : decode cL_refusesBowls 106 = .ok (.iload_n 3, 1) := by decide +kernel
theorem dL_refusesBowls_107 : decode cL_refusesBowls 107 = .ok (.iconst 1, 1) := by decide +kernel
theorem dL_refusesBowls_108 : decode cL_refusesBowls 108 = .ok (.invokevirtual 42, 3) := by decide +kernel
theorem dL_refusesBowls_111 : decode cL_refusesBowls 111 = .ok (.ldc 35, 2) := by decide +kernel
theorem dL_refusesBowls_113 : decode cL_refusesBowls 113 = .ok (.if_icmp .ne 71, 3) := by decide +kernel
theorem dL_refusesBowls_116 : decode cL_refusesBowls 116 = .ok (.aload_n 0, 1) := by decide +kernel
theorem dL_refusesBowls_117 : decode cL_refusesBowls 117 = .ok (.iload_n 3, 1) := by decide +kernel
theorem dL_refusesBowls_118 : decode cL_refusesBowls 118 = .ok (.iconst 1, 1) := by decide +kernel
theorem dL_refusesBowls_119 : decode cL_refusesBowls 119 = .ok (.invokevirtual 45, 3) := by decide +kernel
theorem dL_refusesBowls_122 : decode cL_refusesBowls 122 = .ok (.ldc 35, 2) := by decide +kernel
theorem dL_refusesBowls_124 : decode cL_refusesBowls 124 = .ok (.if_icmp .ne 60, 3) := by decide +kernel
theorem dL_refusesBowls_127 : decode cL_refusesBowls 127 = .ok (.aload_n 0, 1) := by decide +kernel
theorem dL_refusesBowls_128 : decode cL_refusesBowls 128 = .ok (.iload_n 3, 1) := by decide +kernel
theorem dL_refusesBowls_129 : decode cL_refusesBowls 129 = .ok (.iconst 0, 1) := by decide +kernel
theorem dL_refusesBowls_130 : decode cL_refusesBowls 130 = .ok (.invokevirtual 48, 3) := by decide +kernel
theorem dL_refusesBowls_133 : decode cL_refusesBowls 133 = .ok (.ldc 35, 2) := by decide +kernel
theorem dL_refusesBowls_135 : decode cL_refusesBowls 135 = .ok (.if_icmp .ne 49, 3) := by decide +kernel
theorem dL_refusesBowls_138 : decode cL_refusesBowls 138 = .ok (.aload_n 0, 1) := by decide +kernel
theorem dL_refusesBowls_139 : decode cL_refusesBowls 139 = .ok (.iload_n 3, 1) := by decide +kernel
theorem dL_refusesBowls_140 : decode cL_refusesBowls 140 = .ok (.iconst 0, 1) := by decide +kernel
theorem dL_refusesBowls_141 : decode cL_refusesBowls 141 = .ok (.invokevirtual 51, 3) := by decide +kernel
theorem dL_refusesBowls_144 : decode cL_refusesBowls 144 = .ok (.ldc 35, 2) := by decide +kernel
theorem dL_refusesBowls_146 : decode cL_refusesBowls 146 = .ok (.if_icmp .ne 38, 3) := by decide +kernel
theorem dL_refusesBowls_149 : decode cL_refusesBowls 149 = .ok (.aload_n 0, 1) := by decide +kernel
theorem dL_refusesBowls_150 : decode cL_refusesBowls 150 = .ok (.iload_n 3, 1) := by decide +kernel
theorem dL_refusesBowls_151 : decode cL_refusesBowls 151 = .ok (.iconst 0, 1) := by decide +kernel
theorem dL_refusesBowls_152 : decode cL_refusesBowls 152 = .ok (.invokevirtual 25, 3) := by decide +kernel
theorem dL_refusesBowls_155 : decode cL_refusesBowls 155 = .ok (.ldc 35, 2) := by decide +kernel
theorem dL_refusesBowls_157 : decode cL_refusesBowls 157 = .ok (.if_icmp .ne 27, 3) := by decide +kernel
theorem dL_refusesBowls_160 : decode cL_refusesBowls 160 = .ok (.aload_n 0, 1) := by decide +kernel
theorem dL_refusesBowls_161 : decode cL_refusesBowls 161 = .ok (.iload_n 3, 1) := by decide +kernel
theorem dL_refusesBowls_162 : decode cL_refusesBowls 162 = .ok (.iconst 0, 1) := by decide +kernel
theorem dL_refusesBowls_163 : decode cL_refusesBowls 163 = .ok (.invokevirtual 54, 3) := by decide +kernel
theorem dL_refusesBowls_166 : decode cL_refusesBowls 166 = .ok (.ldc 35, 2) := by decide +kernel
theorem dL_refusesBowls_168 : decode cL_refusesBowls 168 = .ok (.if_icmp .ne 16, 3) := by decide +kernel
theorem dL_refusesBowls_171 : decode cL_refusesBowls 171 = .ok (.aload_n 0, 1) := by decide +kernel
theorem dL_refusesBowls_172 : decode cL_refusesBowls 172 = .ok (.iload_n 3, 1) := by decide +kernel
theorem dL_refusesBowls_173 : decode cL_refusesBowls 173 = .ok (.sipush 3600, 3) := by decide +kernel
theorem dL_refusesBowls_176 : decode cL_refusesBowls 176 = .ok (.invokevirtual 57, 3) := by decide +kernel
theorem dL_refusesBowls_179 : decode cL_refusesBowls 179 = .ok (.ldc 35, 2) := by decide +kernel
theorem dL_refusesBowls_181 : decode cL_refusesBowls 181 = .ok (.if_icmp .eq 5, 3) := by decide +kernel
theorem dL_refusesBowls_184 : decode cL_refusesBowls 184 = .ok (.iconst 0, 1) := by decide +kernel
theorem dL_refusesBowls_185 : decode cL_refusesBowls 185 = .ok (.ireturn, 1) := by decide +kernel
theorem dL_refusesBowls_186 : decode cL_refusesBowls 186 = .ok (.iinc 2 1, 3) := by decide +kernel
theorem dL_refusesBowls_189 : decode cL_refusesBowls 189 = .ok (.goto (-109), 3) := by decide +kernel
theorem dL_refusesBowls_192 : decode cL_refusesBowls 192 = .ok (.iload_n 1, 1) := by decide +kernel
theorem dL_refusesBowls_193 : decode cL_refusesBowls 193 = .ok (.ifCond .le 199, 3) := by decide +kernel
theorem dL_refusesBowls_196 : decode cL_refusesBowls 196 = .ok (.aload_n 0, 1) := by decide +kernel
theorem dL_refusesBowls_197 : decode cL_refusesBowls 197 = .ok (.iconst 0, 1) := by decide +kernel
theorem dL_refusesBowls_198 : decode cL_refusesBowls 198 = .ok (.iconst 0, 1) := by decide +kernel
theorem dL_refusesBowls_199 : decode cL_refusesBowls 199 = .ok (.invokevirtual 42, 3) := by decide +kernel
theorem dL_refusesBowls_202 : decode cL_refusesBowls 202 = .ok (.ldc 35, 2) := by decide +kernel
theorem dL_refusesBowls_204 : decode cL_refusesBowls 204 = .ok (.if_icmp .ne 186, 3) := by decide +kernel
theorem dL_refusesBowls_207 : decode cL_refusesBowls 207 = .ok (.aload_n 0, 1) := by decide +kernel
theorem dL_refusesBowls_208 : decode cL_refusesBowls 208 = .ok (.iconst 0, 1) := by decide +kernel
theorem dL_refusesBowls_209 : decode cL_refusesBowls 209 = .ok (.sipush 1001, 3) := by decide +kernel
theorem dL_refusesBowls_212 : decode cL_refusesBowls 212 = .ok (.invokevirtual 42, 3) := by decide +kernel
theorem dL_refusesBowls_215 : decode cL_refusesBowls 215 = .ok (.ldc 35, 2) := by decide +kernel
theorem dL_refusesBowls_217 : decode cL_refusesBowls 217 = .ok (.if_icmp .ne 173, 3) := by decide +kernel
theorem dL_refusesBowls_220 : decode cL_refusesBowls 220 = .ok (.aload_n 0, 1) := by decide +kernel
theorem dL_refusesBowls_221 : decode cL_refusesBowls 221 = .ok (.iconst 0, 1) := by decide +kernel
theorem dL_refusesBowls_222 : decode cL_refusesBowls 222 = .ok (.iconst 0, 1) := by decide +kernel
theorem dL_refusesBowls_223 : decode cL_refusesBowls 223 = .ok (.invokevirtual 45, 3) := by decide +kernel
theorem dL_refusesBowls_226 : decode cL_refusesBowls 226 = .ok (.ldc 35, 2) := by decide +kernel
theorem dL_refusesBowls_228 : decode cL_refusesBowls 228 = .ok (.if_icmp .ne 162, 3) := by decide +kernel
theorem dL_refusesBowls_231 : decode cL_refusesBowls 231 = .ok (.aload_n 0, 1) := by decide +kernel
theorem dL_refusesBowls_232 : decode cL_refusesBowls 232 = .ok (.iconst 0, 1) := by decide +kernel
theorem dL_refusesBowls_233 : decode cL_refusesBowls 233 = .ok (.sipush 1001, 3) := by decide +kernel
theorem dL_refusesBowls_236 : decode cL_refusesBowls 236 = .ok (.invokevirtual 45, 3) := by decide +kernel
theorem dL_refusesBowls_239 : decode cL_refusesBowls 239 = .ok (.ldc 35, 2) := by decide +kernel
theorem dL_refusesBowls_241 : decode cL_refusesBowls 241 = .ok (.if_icmp .ne 149, 3) := by decide +kernel
theorem dL_refusesBowls_244 : decode cL_refusesBowls 244 = .ok (.aload_n 0, 1) := by decide +kernel
theorem dL_refusesBowls_245 : decode cL_refusesBowls 245 = .ok (.iconst 0, 1) := by decide +kernel
theorem dL_refusesBowls_246 : decode cL_refusesBowls 246 = .ok (.iconst (-1), 1) := by decide +kernel
theorem dL_refusesBowls_247 : decode cL_refusesBowls 247 = .ok (.invokevirtual 48, 3) := by decide +kernel
theorem dL_refusesBowls_250 : decode cL_refusesBowls 250 = .ok (.ldc 35, 2) := by decide +kernel
theorem dL_refusesBowls_252 : decode cL_refusesBowls 252 = .ok (.if_icmp .ne 138, 3) := by decide +kernel
theorem dL_refusesBowls_255 : decode cL_refusesBowls 255 = .ok (.aload_n 0, 1) := by decide +kernel
theorem dL_refusesBowls_256 : decode cL_refusesBowls 256 = .ok (.iconst 0, 1) := by decide +kernel
theorem dL_refusesBowls_257 : decode cL_refusesBowls 257 = .ok (.sipush 1001, 3) := by decide +kernel
theorem dL_refusesBowls_260 : decode cL_refusesBowls 260 = .ok (.invokevirtual 48, 3) := by decide +kernel
theorem dL_refusesBowls_263 : decode cL_refusesBowls 263 = .ok (.ldc 35, 2) := by decide +kernel
theorem dL_refusesBowls_265 : decode cL_refusesBowls 265 = .ok (.if_icmp .ne 125, 3) := by decide +kernel
theorem dL_refusesBowls_268 : decode cL_refusesBowls 268 = .ok (.aload_n 0, 1) := by decide +kernel
theorem dL_refusesBowls_269 : decode cL_refusesBowls 269 = .ok (.iconst 0, 1) := by decide +kernel
theorem dL_refusesBowls_270 : decode cL_refusesBowls 270 = .ok (.iconst (-1), 1) := by decide +kernel
theorem dL_refusesBowls_271 : decode cL_refusesBowls 271 = .ok (.invokevirtual 51, 3) := by decide +kernel
theorem dL_refusesBowls_274 : decode cL_refusesBowls 274 = .ok (.ldc 35, 2) := by decide +kernel
theorem dL_refusesBowls_276 : decode cL_refusesBowls 276 = .ok (.if_icmp .ne 114, 3) := by decide +kernel
theorem dL_refusesBowls_279 : decode cL_refusesBowls 279 = .ok (.aload_n 0, 1) := by decide +kernel
theorem dL_refusesBowls_280 : decode cL_refusesBowls 280 = .ok (.iconst 0, 1) := by decide +kernel
theorem dL_refusesBowls_281 : decode cL_refusesBowls 281 = .ok (.sipush 1001, 3) := by decide +kernel
theorem dL_refusesBowls_284 : decode cL_refusesBowls 284 = .ok (.invokevirtual 51, 3) := by decide +kernel
theorem dL_refusesBowls_287 : decode cL_refusesBowls 287 = .ok (.ldc 35, 2) := by decide +kernel
theorem dL_refusesBowls_289 : decode cL_refusesBowls 289 = .ok (.if_icmp .ne 101, 3) := by decide +kernel
theorem dL_refusesBowls_292 : decode cL_refusesBowls 292 = .ok (.aload_n 0, 1) := by decide +kernel
theorem dL_refusesBowls_293 : decode cL_refusesBowls 293 = .ok (.iconst 0, 1) := by decide +kernel
theorem dL_refusesBowls_294 : decode cL_refusesBowls 294 = .ok (.bipush 7, 2) := by decide +kernel
theorem dL_refusesBowls_296 : decode cL_refusesBowls 296 = .ok (.invokevirtual 25, 3) := by decide +kernel
theorem dL_refusesBowls_299 : decode cL_refusesBowls 299 = .ok (.ldc 35, 2) := by decide +kernel
theorem dL_refusesBowls_301 : decode cL_refusesBowls 301 = .ok (.if_icmp .ne 89, 3) := by decide +kernel
theorem dL_refusesBowls_304 : decode cL_refusesBowls 304 = .ok (.aload_n 0, 1) := by decide +kernel
theorem dL_refusesBowls_305 : decode cL_refusesBowls 305 = .ok (.iconst 0, 1) := by decide +kernel
theorem dL_refusesBowls_306 : decode cL_refusesBowls 306 = .ok (.iconst (-1), 1) := by decide +kernel
theorem dL_refusesBowls_307 : decode cL_refusesBowls 307 = .ok (.invokevirtual 25, 3) := by decide +kernel
theorem dL_refusesBowls_310 : decode cL_refusesBowls 310 = .ok (.ldc 35, 2) := by decide +kernel
theorem dL_refusesBowls_312 : decode cL_refusesBowls 312 = .ok (.if_icmp .ne 78, 3) := by decide +kernel
theorem dL_refusesBowls_315 : decode cL_refusesBowls 315 = .ok (.aload_n 0, 1) := by decide +kernel
theorem dL_refusesBowls_316 : decode cL_refusesBowls 316 = .ok (.iconst 0, 1) := by decide +kernel
theorem dL_refusesBowls_317 : decode cL_refusesBowls 317 = .ok (.sipush (-3001), 3) := by decide +kernel
theorem dL_refusesBowls_320 : decode cL_refusesBowls 320 = .ok (.invokevirtual 54, 3) := by decide +kernel
theorem dL_refusesBowls_323 : decode cL_refusesBowls 323 = .ok (.ldc 35, 2) := by decide +kernel
theorem dL_refusesBowls_325 : decode cL_refusesBowls 325 = .ok (.if_icmp .ne 65, 3) := by decide +kernel
theorem dL_refusesBowls_328 : decode cL_refusesBowls 328 = .ok (.aload_n 0, 1) := by decide +kernel
theorem dL_refusesBowls_329 : decode cL_refusesBowls 329 = .ok (.iconst 0, 1) := by decide +kernel
theorem dL_refusesBowls_330 : decode cL_refusesBowls 330 = .ok (.sipush 6001, 3) := by decide +kernel
theorem dL_refusesBowls_333 : decode cL_refusesBowls 333 = .ok (.invokevirtual 54, 3) := by decide +kernel
theorem dL_refusesBowls_336 : decode cL_refusesBowls 336 = .ok (.ldc 35, 2) := by decide +kernel
theorem dL_refusesBowls_338 : decode cL_refusesBowls 338 = .ok (.if_icmp .ne 52, 3) := by decide +kernel
theorem dL_refusesBowls_341 : decode cL_refusesBowls 341 = .ok (.aload_n 0, 1) := by decide +kernel
theorem dL_refusesBowls_342 : decode cL_refusesBowls 342 = .ok (.iconst 0, 1) := by decide +kernel
theorem dL_refusesBowls_343 : decode cL_refusesBowls 343 = .ok (.sipush 3601, 3) := by decide +kernel
theorem dL_refusesBowls_346 : decode cL_refusesBowls 346 = .ok (.invokevirtual 57, 3) := by decide +kernel
theorem dL_refusesBowls_349 : decode cL_refusesBowls 349 = .ok (.ldc 35, 2) := by decide +kernel
theorem dL_refusesBowls_351 : decode cL_refusesBowls 351 = .ok (.if_icmp .ne 39, 3) := by decide +kernel
theorem dL_refusesBowls_354 : decode cL_refusesBowls 354 = .ok (.aload_n 0, 1) := by decide +kernel
theorem dL_refusesBowls_355 : decode cL_refusesBowls 355 = .ok (.iconst 0, 1) := by decide +kernel
theorem dL_refusesBowls_356 : decode cL_refusesBowls 356 = .ok (.aload_n 0, 1) := by decide +kernel
theorem dL_refusesBowls_357 : decode cL_refusesBowls 357 = .ok (.iconst 0, 1) := by decide +kernel
theorem dL_refusesBowls_358 : decode cL_refusesBowls 358 = .ok (.invokevirtual 13, 3) := by decide +kernel
theorem dL_refusesBowls_361 : decode cL_refusesBowls 361 = .ok (.iconst 1, 1) := by decide +kernel
theorem dL_refusesBowls_362 : decode cL_refusesBowls 362 = .ok (.isub, 1) := by decide +kernel
theorem dL_refusesBowls_363 : decode cL_refusesBowls 363 = .ok (.invokevirtual 57, 3) := by decide +kernel
theorem dL_refusesBowls_366 : decode cL_refusesBowls 366 = .ok (.ldc 35, 2) := by decide +kernel
theorem dL_refusesBowls_368 : decode cL_refusesBowls 368 = .ok (.if_icmp .ne 22, 3) := by decide +kernel
theorem dL_refusesBowls_371 : decode cL_refusesBowls 371 = .ok (.aload_n 0, 1) := by decide +kernel
theorem dL_refusesBowls_372 : decode cL_refusesBowls 372 = .ok (.iconst 0, 1) := by decide +kernel
theorem dL_refusesBowls_373 : decode cL_refusesBowls 373 = .ok (.aload_n 0, 1) := by decide +kernel
theorem dL_refusesBowls_374 : decode cL_refusesBowls 374 = .ok (.iconst 0, 1) := by decide +kernel
theorem dL_refusesBowls_375 : decode cL_refusesBowls 375 = .ok (.invokevirtual 13, 3) := by decide +kernel
theorem dL_refusesBowls_378 : decode cL_refusesBowls 378 = .ok (.invokevirtual 57, 3) := by decide +kernel
theorem dL_refusesBowls_381 : decode cL_refusesBowls 381 = .ok (.aload_n 0, 1) := by decide +kernel
theorem dL_refusesBowls_382 : decode cL_refusesBowls 382 = .ok (.iconst 0, 1) := by decide +kernel
theorem dL_refusesBowls_383 : decode cL_refusesBowls 383 = .ok (.iconst 5, 1) := by decide +kernel
theorem dL_refusesBowls_384 : decode cL_refusesBowls 384 = .ok (.invokevirtual 25, 3) := by decide +kernel
theorem dL_refusesBowls_387 : decode cL_refusesBowls 387 = .ok (.if_icmp .eq 5, 3) := by decide +kernel
theorem dL_refusesBowls_390 : decode cL_refusesBowls 390 = .ok (.iconst 0, 1) := by decide +kernel
theorem dL_refusesBowls_391 : decode cL_refusesBowls 391 = .ok (.ireturn, 1) := by decide +kernel
theorem dL_refusesBowls_392 : decode cL_refusesBowls 392 = .ok (.iload_n 1, 1) := by decide +kernel
theorem dL_refusesBowls_393 : decode cL_refusesBowls 393 = .ok (.ifCond .gt 31, 3) := by decide +kernel
theorem dL_refusesBowls_396 : decode cL_refusesBowls 396 = .ok (.aload_n 0, 1) := by decide +kernel
theorem dL_refusesBowls_397 : decode cL_refusesBowls 397 = .ok (.iconst 0, 1) := by decide +kernel
theorem dL_refusesBowls_398 : decode cL_refusesBowls 398 = .ok (.invokevirtual 36, 3) := by decide +kernel
theorem dL_refusesBowls_401 : decode cL_refusesBowls 401 = .ok (.ldc 60, 2) := by decide +kernel
theorem dL_refusesBowls_403 : decode cL_refusesBowls 403 = .ok (.if_icmp .ne 25, 3) := by decide +kernel
theorem dL_refusesBowls_406 : decode cL_refusesBowls 406 = .ok (.aload_n 0, 1) := by decide +kernel
theorem dL_refusesBowls_407 : decode cL_refusesBowls 407 = .ok (.invokevirtual 61, 3) := by decide +kernel
theorem dL_refusesBowls_410 : decode cL_refusesBowls 410 = .ok (.ldc 60, 2) := by decide +kernel
theorem dL_refusesBowls_412 : decode cL_refusesBowls 412 = .ok (.if_icmp .ne 16, 3) := by decide +kernel
theorem dL_refusesBowls_415 : decode cL_refusesBowls 415 = .ok (.aload_n 0, 1) := by decide +kernel
theorem dL_refusesBowls_416 : decode cL_refusesBowls 416 = .ok (.invokevirtual 65, 3) := by decide +kernel
theorem dL_refusesBowls_419 : decode cL_refusesBowls 419 = .ok (.ldc 60, 2) := by decide +kernel
theorem dL_refusesBowls_421 : decode cL_refusesBowls 421 = .ok (.if_icmp .ne 7, 3) := by decide +kernel
theorem dL_refusesBowls_424 : decode cL_refusesBowls 424 = .ok (.iconst 1, 1) := by decide +kernel
theorem dL_refusesBowls_425 : decode cL_refusesBowls 425 = .ok (.goto 4, 3) := by decide +kernel
theorem dL_refusesBowls_428 : decode cL_refusesBowls 428 = .ok (.iconst 0, 1) := by decide +kernel
theorem dL_refusesBowls_429 : decode cL_refusesBowls 429 = .ok (.ireturn, 1) := by decide +kernel
theorem dL_refusesNotes_0 : decode cL_refusesNotes 0 = .ok (.aload_n 0, 1) := by decide +kernel
theorem dL_refusesNotes_1 : decode cL_refusesNotes 1 = .ok (.iconst 2, 1) := by decide +kernel
theorem dL_refusesNotes_2 : decode cL_refusesNotes 2 = .ok (.invokevirtual 13, 3) := by decide +kernel
theorem dL_refusesNotes_5 : decode cL_refusesNotes 5 = .ok (.istore_n 1, 1) := by decide +kernel
theorem dL_refusesNotes_6 : decode cL_refusesNotes 6 = .ok (.aload_n 0, 1) := by decide +kernel
theorem dL_refusesNotes_7 : decode cL_refusesNotes 7 = .ok (.iconst (-1), 1) := by decide +kernel
theorem dL_refusesNotes_8 : decode cL_refusesNotes 8 = .ok (.iconst 0, 1) := by decide +kernel
theorem dL_refusesNotes_9 : decode cL_refusesNotes 9 = .ok (.invokevirtual 68, 3) := by decide +kernel
theorem dL_refusesNotes_12 : decode cL_refusesNotes 12 = .ok (.ldc 35, 2) := by decide +kernel
theorem dL_refusesNotes_14 : decode cL_refusesNotes 14 = .ok (.if_icmp .ne 85, 3) := by decide +kernel
theorem dL_refusesNotes_17 : decode cL_refusesNotes 17 = .ok (.aload_n 0, 1) := by decide +kernel
theorem dL_refusesNotes_18 : decode cL_refusesNotes 18 = .ok (.sipush 3601, 3) := by decide +kernel
theorem dL_refusesNotes_21 : decode cL_refusesNotes 21 = .ok (.iconst 0, 1) := by decide +kernel
theorem dL_refusesNotes_22 : decode cL_refusesNotes 22 = .ok (.invokevirtual 68, 3) := by decide +kernel
theorem dL_refusesNotes_25 : decode cL_refusesNotes 25 = .ok (.ldc 35, 2) := by decide +kernel
theorem dL_refusesNotes_27 : decode cL_refusesNotes 27 = .ok (.if_icmp .ne 72, 3) := by decide +kernel
theorem dL_refusesNotes_30 : decode cL_refusesNotes 30 = .ok (.aload_n 0, 1) := by decide +kernel
theorem dL_refusesNotes_31 : decode cL_refusesNotes 31 = .ok (.iconst 0, 1) := by decide +kernel
theorem dL_refusesNotes_32 : decode cL_refusesNotes 32 = .ok (.iconst (-1), 1) := by decide +kernel
theorem dL_refusesNotes_33 : decode cL_refusesNotes 33 = .ok (.invokevirtual 68, 3) := by decide +kernel
theorem dL_refusesNotes_36 : decode cL_refusesNotes 36 = .ok (.ldc 35, 2) := by decide +kernel
theorem dL_refusesNotes_38 : decode cL_refusesNotes 38 = .ok (.if_icmp .ne 61, 3) := by decide +kernel
theorem dL_refusesNotes_41 : decode cL_refusesNotes 41 = .ok (.aload_n 0, 1) := by decide +kernel
theorem dL_refusesNotes_42 : decode cL_refusesNotes 42 = .ok (.iconst 0, 1) := by decide +kernel
theorem dL_refusesNotes_43 : decode cL_refusesNotes 43 = .ok (.sipush 6001, 3) := by decide +kernel
theorem dL_refusesNotes_46 : decode cL_refusesNotes 46 = .ok (.invokevirtual 68, 3) := by decide +kernel
theorem dL_refusesNotes_49 : decode cL_refusesNotes 49 = .ok (.ldc 35, 2) := by decide +kernel
theorem dL_refusesNotes_51 : decode cL_refusesNotes 51 = .ok (.if_icmp .ne 48, 3) := by decide +kernel
theorem dL_refusesNotes_54 : decode cL_refusesNotes 54 = .ok (.aload_n 0, 1) := by decide +kernel
theorem dL_refusesNotes_55 : decode cL_refusesNotes 55 = .ok (.iconst 0, 1) := by decide +kernel
theorem dL_refusesNotes_56 : decode cL_refusesNotes 56 = .ok (.iload_n 1, 1) := by decide +kernel
theorem dL_refusesNotes_57 : decode cL_refusesNotes 57 = .ok (.iconst 1, 1) := by decide +kernel
theorem dL_refusesNotes_58 : decode cL_refusesNotes 58 = .ok (.invokevirtual 71, 3) := by decide +kernel
theorem dL_refusesNotes_61 : decode cL_refusesNotes 61 = .ok (.ldc 35, 2) := by decide +kernel
theorem dL_refusesNotes_63 : decode cL_refusesNotes 63 = .ok (.if_icmp .ne 36, 3) := by decide +kernel
theorem dL_refusesNotes_66 : decode cL_refusesNotes 66 = .ok (.aload_n 0, 1) := by decide +kernel
theorem dL_refusesNotes_67 : decode cL_refusesNotes 67 = .ok (.iconst (-1), 1) := by decide +kernel
theorem dL_refusesNotes_68 : decode cL_refusesNotes 68 = .ok (.iconst 0, 1) := by decide +kernel
theorem dL_refusesNotes_69 : decode cL_refusesNotes 69 = .ok (.iconst 1, 1) := by decide +kernel
theorem dL_refusesNotes_70 : decode cL_refusesNotes 70 = .ok (.invokevirtual 71, 3) := by decide +kernel
theorem dL_refusesNotes_73 : decode cL_refusesNotes 73 = .ok (.ldc 35, 2) := by decide +kernel
theorem dL_refusesNotes_75 : decode cL_refusesNotes 75 = .ok (.if_icmp .ne 24, 3) := by decide +kernel
theorem dL_refusesNotes_78 : decode cL_refusesNotes 78 = .ok (.aload_n 0, 1) := by decide +kernel
theorem dL_refusesNotes_79 : decode cL_refusesNotes 79 = .ok (.iconst (-1), 1) := by decide +kernel
theorem dL_refusesNotes_80 : decode cL_refusesNotes 80 = .ok (.invokevirtual 75, 3) := by decide +kernel
theorem dL_refusesNotes_83 : decode cL_refusesNotes 83 = .ok (.ldc 35, 2) := by decide +kernel
theorem dL_refusesNotes_85 : decode cL_refusesNotes 85 = .ok (.if_icmp .ne 14, 3) := by decide +kernel
theorem dL_refusesNotes_88 : decode cL_refusesNotes 88 = .ok (.aload_n 0, 1) := by decide +kernel
theorem dL_refusesNotes_89 : decode cL_refusesNotes 89 = .ok (.bipush 40, 2) := by decide +kernel
theorem dL_refusesNotes_91 : decode cL_refusesNotes 91 = .ok (.invokevirtual 75, 3) := by decide +kernel
theorem dL_refusesNotes_94 : decode cL_refusesNotes 94 = .ok (.ldc 60, 2) := by decide +kernel
theorem dL_refusesNotes_96 : decode cL_refusesNotes 96 = .ok (.if_icmp .eq 5, 3) := by decide +kernel
theorem dL_refusesNotes_99 : decode cL_refusesNotes 99 = .ok (.iconst 0, 1) := by decide +kernel
theorem dL_refusesNotes_100 : decode cL_refusesNotes 100 = .ok (.ireturn, 1) := by decide +kernel
theorem dL_refusesNotes_101 : decode cL_refusesNotes 101 = .ok (.iconst 0, 1) := by decide +kernel
theorem dL_refusesNotes_102 : decode cL_refusesNotes 102 = .ok (.istore_n 2, 1) := by decide +kernel
theorem dL_refusesNotes_103 : decode cL_refusesNotes 103 = .ok (.iload_n 2, 1) := by decide +kernel
theorem dL_refusesNotes_104 : decode cL_refusesNotes 104 = .ok (.iconst 2, 1) := by decide +kernel
theorem dL_refusesNotes_105 : decode cL_refusesNotes 105 = .ok (.if_icmp .ge 52, 3) := by decide +kernel
theorem dL_refusesNotes_108 : decode cL_refusesNotes 108 = .ok (.iload_n 2, 1) := by decide +kernel
theorem dL_refusesNotes_109 : decode cL_refusesNotes 109 = .ok (.ifCond .ne 7, 3) := by decide +kernel
theorem dL_refusesNotes_112 : decode cL_refusesNotes 112 = .ok (.iload_n 1, 1) := by decide +kernel
theorem dL_refusesNotes_113 : decode cL_refusesNotes 113 = .ok (.goto 4, 3) := by decide +kernel
theorem dL_refusesNotes_116 : decode cL_refusesNotes 116 = .ok (.iconst (-1), 1) := by decide +kernel
theorem dL_refusesNotes_117 : decode cL_refusesNotes 117 = .ok (.istore_n 3, 1) := by decide +kernel
theorem dL_refusesNotes_118 : decode cL_refusesNotes 118 = .ok (.aload_n 0, 1) := by decide +kernel
theorem dL_refusesNotes_119 : decode cL_refusesNotes 119 = .ok (.iload_n 3, 1) := by decide +kernel
theorem dL_refusesNotes_120 : decode cL_refusesNotes 120 = .ok (.invokevirtual 78, 3) := by decide +kernel
theorem dL_refusesNotes_123 : decode cL_refusesNotes 123 = .ok (.ldc 35, 2) := by decide +kernel
theorem dL_refusesNotes_125 : decode cL_refusesNotes 125 = .ok (.if_icmp .ne 24, 3) := by decide +kernel
theorem dL_refusesNotes_128 : decode cL_refusesNotes 128 = .ok (.aload_n 0, 1) := by decide +kernel
theorem dL_refusesNotes_129 : decode cL_refusesNotes 129 = .ok (.iload_n 3, 1) := by decide +kernel
theorem dL_refusesNotes_130 : decode cL_refusesNotes 130 = .ok (.iconst 0, 1) := by decide +kernel
theorem dL_refusesNotes_131 : decode cL_refusesNotes 131 = .ok (.invokevirtual 29, 3) := by decide +kernel
theorem dL_refusesNotes_134 : decode cL_refusesNotes 134 = .ok (.ldc 35, 2) := by decide +kernel
theorem dL_refusesNotes_136 : decode cL_refusesNotes 136 = .ok (.if_icmp .ne 13, 3) := by decide +kernel
theorem dL_refusesNotes_139 : decode cL_refusesNotes 139 = .ok (.aload_n 0, 1) := by decide +kernel
theorem dL_refusesNotes_140 : decode cL_refusesNotes 140 = .ok (.iload_n 3, 1) := by decide +kernel
theorem dL_refusesNotes_141 : decode cL_refusesNotes 141 = .ok (.invokevirtual 81, 3) := by decide +kernel
theorem dL_refusesNotes_144 : decode cL_refusesNotes 144 = .ok (.ldc 35, 2) := by decide +kernel
theorem dL_refusesNotes_146 : decode cL_refusesNotes 146 = .ok (.if_icmp .eq 5, 3) := by decide +kernel
theorem dL_refusesNotes_149 : decode cL_refusesNotes 149 = .ok (.iconst 0, 1) := by decide +kernel
theorem dL_refusesNotes_150 : decode cL_refusesNotes 150 = .ok (.ireturn, 1) := by decide +kernel
theorem dL_refusesNotes_151 : decode cL_refusesNotes 151 = .ok (.iinc 2 1, 3) := by decide +kernel
theorem dL_refusesNotes_154 : decode cL_refusesNotes 154 = .ok (.goto (-51), 3) := by decide +kernel
theorem dL_refusesNotes_157 : decode cL_refusesNotes 157 = .ok (.iload_n 1, 1) := by decide +kernel
theorem dL_refusesNotes_158 : decode cL_refusesNotes 158 = .ok (.iconst 2, 1) := by decide +kernel
theorem dL_refusesNotes_159 : decode cL_refusesNotes 159 = .ok (.if_icmp .lt 139, 3) := by decide +kernel
theorem dL_refusesNotes_162 : decode cL_refusesNotes 162 = .ok (.aload_n 0, 1) := by decide +kernel
theorem dL_refusesNotes_163 : decode cL_refusesNotes 163 = .ok (.iconst 1, 1) := by decide +kernel
theorem dL_refusesNotes_164 : decode cL_refusesNotes 164 = .ok (.iconst 0, 1) := by decide +kernel
theorem dL_refusesNotes_165 : decode cL_refusesNotes 165 = .ok (.iconst 1, 1) := by decide +kernel
theorem dL_refusesNotes_166 : decode cL_refusesNotes 166 = .ok (.invokevirtual 71, 3) := by decide +kernel
theorem dL_refusesNotes_169 : decode cL_refusesNotes 169 = .ok (.ldc 35, 2) := by decide +kernel
theorem dL_refusesNotes_171 : decode cL_refusesNotes 171 = .ok (.if_icmp .ne 131, 3) := by decide +kernel
theorem dL_refusesNotes_174 : decode cL_refusesNotes 174 = .ok (.aload_n 0, 1) := by decide +kernel
theorem dL_refusesNotes_175 : decode cL_refusesNotes 175 = .ok (.iconst 0, 1) := by decide +kernel
theorem dL_refusesNotes_176 : decode cL_refusesNotes 176 = .ok (.iconst 0, 1) := by decide +kernel
theorem dL_refusesNotes_177 : decode cL_refusesNotes 177 = .ok (.iconst 0, 1) := by decide +kernel
theorem dL_refusesNotes_178 : decode cL_refusesNotes 178 = .ok (.invokevirtual 71, 3) := by decide +kernel
theorem dL_refusesNotes_181 : decode cL_refusesNotes 181 = .ok (.ldc 35, 2) := by decide +kernel
theorem dL_refusesNotes_183 : decode cL_refusesNotes 183 = .ok (.if_icmp .ne 119, 3) := by decide +kernel
theorem dL_refusesNotes_186 : decode cL_refusesNotes 186 = .ok (.aload_n 0, 1) := by decide +kernel
theorem dL_refusesNotes_187 : decode cL_refusesNotes 187 = .ok (.iconst 0, 1) := by decide +kernel
theorem dL_refusesNotes_188 : decode cL_refusesNotes 188 = .ok (.iconst 0, 1) := by decide +kernel
theorem dL_refusesNotes_189 : decode cL_refusesNotes 189 = .ok (.sipush 6001, 3) := by decide +kernel
theorem dL_refusesNotes_192 : decode cL_refusesNotes 192 = .ok (.invokevirtual 71, 3) := by decide +kernel
theorem dL_refusesNotes_195 : decode cL_refusesNotes 195 = .ok (.ldc 35, 2) := by decide +kernel
theorem dL_refusesNotes_197 : decode cL_refusesNotes 197 = .ok (.if_icmp .ne 105, 3) := by decide +kernel
theorem dL_refusesNotes_200 : decode cL_refusesNotes 200 = .ok (.aload_n 0, 1) := by decide +kernel
theorem dL_refusesNotes_201 : decode cL_refusesNotes 201 = .ok (.iconst 0, 1) := by decide +kernel
theorem dL_refusesNotes_202 : decode cL_refusesNotes 202 = .ok (.iconst 0, 1) := by decide +kernel
theorem dL_refusesNotes_203 : decode cL_refusesNotes 203 = .ok (.sipush (-6001), 3) := by decide +kernel
theorem dL_refusesNotes_206 : decode cL_refusesNotes 206 = .ok (.invokevirtual 71, 3) := by decide +kernel
theorem dL_refusesNotes_209 : decode cL_refusesNotes 209 = .ok (.ldc 35, 2) := by decide +kernel
theorem dL_refusesNotes_211 : decode cL_refusesNotes 211 = .ok (.if_icmp .ne 91, 3) := by decide +kernel
theorem dL_refusesNotes_214 : decode cL_refusesNotes 214 = .ok (.aload_n 0, 1) := by decide +kernel
theorem dL_refusesNotes_215 : decode cL_refusesNotes 215 = .ok (.iconst 0, 1) := by decide +kernel
theorem dL_refusesNotes_216 : decode cL_refusesNotes 216 = .ok (.bipush 7, 2) := by decide +kernel
theorem dL_refusesNotes_218 : decode cL_refusesNotes 218 = .ok (.invokevirtual 29, 3) := by decide +kernel
theorem dL_refusesNotes_221 : decode cL_refusesNotes 221 = .ok (.ldc 35, 2) := by decide +kernel
theorem dL_refusesNotes_223 : decode cL_refusesNotes 223 = .ok (.if_icmp .ne 79, 3) := by decide +kernel
theorem dL_refusesNotes_226 : decode cL_refusesNotes 226 = .ok (.aload_n 0, 1) := by decide +kernel
theorem dL_refusesNotes_227 : decode cL_refusesNotes 227 = .ok (.iconst 0, 1) := by decide +kernel
theorem dL_refusesNotes_228 : decode cL_refusesNotes 228 = .ok (.iconst (-1), 1) := by decide +kernel
theorem dL_refusesNotes_229 : decode cL_refusesNotes 229 = .ok (.invokevirtual 29, 3) := by decide +kernel
theorem dL_refusesNotes_232 : decode cL_refusesNotes 232 = .ok (.ldc 35, 2) := by decide +kernel
theorem dL_refusesNotes_234 : decode cL_refusesNotes 234 = .ok (.if_icmp .ne 68, 3) := by decide +kernel
theorem dL_refusesNotes_237 : decode cL_refusesNotes 237 = .ok (.aload_n 0, 1) := by decide +kernel
theorem dL_refusesNotes_238 : decode cL_refusesNotes 238 = .ok (.aload_n 0, 1) := by decide +kernel
theorem dL_refusesNotes_239 : decode cL_refusesNotes 239 = .ok (.iconst 0, 1) := by decide +kernel
theorem dL_refusesNotes_240 : decode cL_refusesNotes 240 = .ok (.iconst 0, 1) := by decide +kernel
theorem dL_refusesNotes_241 : decode cL_refusesNotes 241 = .ok (.invokevirtual 29, 3) := by decide +kernel
theorem dL_refusesNotes_244 : decode cL_refusesNotes 244 = .ok (.iconst 0, 1) := by decide +kernel
theorem dL_refusesNotes_245 : decode cL_refusesNotes 245 = .ok (.invokevirtual 68, 3) := by decide +kernel
theorem dL_refusesNotes_248 : decode cL_refusesNotes 248 = .ok (.ldc 84, 2) := by decide +kernel
theorem dL_refusesNotes_250 : decode cL_refusesNotes 250 = .ok (.if_icmp .ne 52, 3) := by decide +kernel
theorem dL_refusesNotes_253 : decode cL_refusesNotes 253 = .ok (.aload_n 0, 1) := by decide +kernel
theorem dL_refusesNotes_254 : decode cL_refusesNotes 254 = .ok (.iconst 0, 1) := by decide +kernel
theorem dL_refusesNotes_255 : decode cL_refusesNotes 255 = .ok (.iconst 1, 1) := by decide +kernel
theorem dL_refusesNotes_256 : decode cL_refusesNotes 256 = .ok (.invokevirtual 29, 3) := by decide +kernel
theorem dL_refusesNotes_259 : decode cL_refusesNotes 259 = .ok (.ifCond .le 27, 3) := by decide +kernel
theorem dL_refusesNotes_262 : decode cL_refusesNotes 262 = .ok (.aload_n 0, 1) := by decide +kernel
theorem dL_refusesNotes_263 : decode cL_refusesNotes 263 = .ok (.iconst 0, 1) := by decide +kernel
theorem dL_refusesNotes_264 : decode cL_refusesNotes 264 = .ok (.iconst 0, 1) := by decide +kernel
theorem dL_refusesNotes_265 : decode cL_refusesNotes 265 = .ok (.sipush 6001, 3) := by decide +kernel
theorem dL_refusesNotes_268 : decode cL_refusesNotes 268 = .ok (.aload_n 0, 1) := by decide +kernel
theorem dL_refusesNotes_269 : decode cL_refusesNotes 269 = .ok (.iconst 0, 1) := by decide +kernel
theorem dL_refusesNotes_270 : decode cL_refusesNotes 270 = .ok (.iconst 1, 1) := by decide +kernel
theorem dL_refusesNotes_271 : decode cL_refusesNotes 271 = .ok (.invokevirtual 29, 3) := by decide +kernel
theorem dL_refusesNotes_274 : decode cL_refusesNotes 274 = .ok (.isub, 1) := by decide +kernel
theorem dL_refusesNotes_275 : decode cL_refusesNotes 275 = .ok (.invokevirtual 71, 3) := by decide +kernel
theorem dL_refusesNotes_278 : decode cL_refusesNotes 278 = .ok (.ldc 84, 2) := by decide +kernel
theorem dL_refusesNotes_280 : decode cL_refusesNotes 280 = .ok (.if_icmp .ne 22, 3) := by decide +kernel
theorem dL_refusesNotes_283 : decode cL_refusesNotes 283 = .ok (.goto 15, 3) := by decide +kernel
theorem dL_refusesNotes_286 : decode cL_refusesNotes 286 = .ok (.aload_n 0, 1) := by decide +kernel
theorem dL_refusesNotes_287 : decode cL_refusesNotes 287 = .ok (.iconst 0, 1) := by decide +kernel
theorem dL_refusesNotes_288 : decode cL_refusesNotes 288 = .ok (.iconst 1, 1) := by decide +kernel
theorem dL_refusesNotes_289 : decode cL_refusesNotes 289 = .ok (.iconst (-1), 1) := by decide +kernel
theorem dL_refusesNotes_290 : decode cL_refusesNotes 290 = .ok (.invokevirtual 71, 3) := by decide +kernel
theorem dL_refusesNotes_293 : decode cL_refusesNotes 293 = .ok (.ldc 84, 2) := by decide +kernel
theorem dL_refusesNotes_295 : decode cL_refusesNotes 295 = .ok (.if_icmp .ne 7, 3) := by decide +kernel
theorem dL_refusesNotes_298 : decode cL_refusesNotes 298 = .ok (.iconst 1, 1) := by decide +kernel
theorem dL_refusesNotes_299 : decode cL_refusesNotes 299 = .ok (.goto 4, 3) := by decide +kernel
theorem dL_refusesNotes_302 : decode cL_refusesNotes 302 = .ok (.iconst 0, 1) := by decide +kernel
theorem dL_refusesNotes_303 : decode cL_refusesNotes 303 = .ok (.ireturn, 1) := by decide +kernel
theorem dL_refused_0 : decode cL_refused 0 = .ok (.aload_n 0, 1) := by decide +kernel
theorem dL_refused_1 : decode cL_refused 1 = .ok (.invokestatic 85, 3) := by decide +kernel
theorem dL_refused_4 : decode cL_refused 4 = .ok (.aload_n 0, 1) := by decide +kernel
theorem dL_refused_5 : decode cL_refused 5 = .ok (.bipush 7, 2) := by decide +kernel
theorem dL_refused_7 : decode cL_refused 7 = .ok (.invokevirtual 13, 3) := by decide +kernel
theorem dL_refused_10 : decode cL_refused 10 = .ok (.i2l, 1) := by decide +kernel
theorem dL_refused_11 : decode cL_refused 11 = .ok (.invokestatic 19, 3) := by decide +kernel
theorem dL_refused_14 : decode cL_refused 14 = .ok (.aload_n 0, 1) := by decide +kernel
theorem dL_refused_15 : decode cL_refused 15 = .ok (.bipush 8, 2) := by decide +kernel
theorem dL_refused_17 : decode cL_refused 17 = .ok (.invokevirtual 13, 3) := by decide +kernel
theorem dL_refused_20 : decode cL_refused 20 = .ok (.i2l, 1) := by decide +kernel
theorem dL_refused_21 : decode cL_refused 21 = .ok (.invokestatic 19, 3) := by decide +kernel
theorem dL_refused_24 : decode cL_refused 24 = .ok (.lstore_n 1, 1) := by decide +kernel
theorem dL_refused_25 : decode cL_refused 25 = .ok (.aload_n 0, 1) := by decide +kernel
theorem dL_refused_26 : decode cL_refused 26 = .ok (.invokestatic 89, 3) := by decide +kernel
theorem dL_refused_29 : decode cL_refused 29 = .ok (.ifCond .eq 244, 3) := by decide +kernel
theorem dL_refused_32 : decode cL_refused 32 = .ok (.aload_n 0, 1) := by decide +kernel
theorem dL_refused_33 : decode cL_refused 33 = .ok (.invokestatic 93, 3) := by decide +kernel
theorem dL_refused_36 : decode cL_refused 36 = .ok (.ifCond .eq 237, 3) := by decide +kernel
theorem dL_refused_39 : decode cL_refused 39 = .ok (.aload_n 0, 1) := by decide +kernel
theorem dL_refused_40 : decode cL_refused 40 = .ok (.iconst (-1), 1) := by decide +kernel
theorem dL_refused_41 : decode cL_refused 41 = .ok (.iconst 1, 1) := by decide +kernel
theorem dL_refused_42 : decode cL_refused 42 = .ok (.invokevirtual 96, 3) := by decide +kernel
theorem dL_refused_45 : decode cL_refused 45 = .ok (.ldc 35, 2) := by decide +kernel
theorem dL_refused_47 : decode cL_refused 47 = .ok (.if_icmp .ne 226, 3) := by decide +kernel
theorem dL_refused_50 : decode cL_refused 50 = .ok (.aload_n 0, 1) := by decide +kernel
theorem dL_refused_51 : decode cL_refused 51 = .ok (.iconst 4, 1) := by decide +kernel
theorem dL_refused_52 : decode cL_refused 52 = .ok (.iconst 1, 1) := by decide +kernel
theorem dL_refused_53 : decode cL_refused 53 = .ok (.invokevirtual 96, 3) := by decide +kernel
theorem dL_refused_56 : decode cL_refused 56 = .ok (.ldc 35, 2) := by decide +kernel
theorem dL_refused_58 : decode cL_refused 58 = .ok (.if_icmp .ne 215, 3) := by decide +kernel
theorem dL_refused_61 : decode cL_refused 61 = .ok (.aload_n 0, 1) := by decide +kernel
theorem dL_refused_62 : decode cL_refused 62 = .ok (.iconst 0, 1) := by decide +kernel
theorem dL_refused_63 : decode cL_refused 63 = .ok (.iconst 0, 1) := by decide +kernel
theorem dL_refused_64 : decode cL_refused 64 = .ok (.invokevirtual 96, 3) := by decide +kernel
theorem dL_refused_67 : decode cL_refused 67 = .ok (.ldc 35, 2) := by decide +kernel
theorem dL_refused_69 : decode cL_refused 69 = .ok (.if_icmp .ne 204, 3) := by decide +kernel
theorem dL_refused_72 : decode cL_refused 72 = .ok (.aload_n 0, 1) := by decide +kernel
theorem dL_refused_73 : decode cL_refused 73 = .ok (.iconst 0, 1) := by decide +kernel
theorem dL_refused_74 : decode cL_refused 74 = .ok (.sipush 601, 3) := by decide +kernel
theorem dL_refused_77 : decode cL_refused 77 = .ok (.invokevirtual 96, 3) := by decide +kernel
theorem dL_refused_80 : decode cL_refused 80 = .ok (.ldc 35, 2) := by decide +kernel
theorem dL_refused_82 : decode cL_refused 82 = .ok (.if_icmp .ne 191, 3) := by decide +kernel
theorem dL_refused_85 : decode cL_refused 85 = .ok (.aload_n 0, 1) := by decide +kernel
theorem dL_refused_86 : decode cL_refused 86 = .ok (.iconst 1, 1) := by decide +kernel
theorem dL_refused_87 : decode cL_refused 87 = .ok (.iconst 0, 1) := by decide +kernel
theorem dL_refused_88 : decode cL_refused 88 = .ok (.invokevirtual 96, 3) := by decide +kernel
theorem dL_refused_91 : decode cL_refused 91 = .ok (.ldc 35, 2) := by decide +kernel
theorem dL_refused_93 : decode cL_refused 93 = .ok (.if_icmp .ne 180, 3) := by decide +kernel
theorem dL_refused_96 : decode cL_refused 96 = .ok (.aload_n 0, 1) := by decide +kernel
theorem dL_refused_97 : decode cL_refused 97 = .ok (.iconst 1, 1) := by decide +kernel
theorem dL_refused_98 : decode cL_refused 98 = .ok (.sipush 601, 3) := by decide +kernel
theorem dL_refused_101 : decode cL_refused 101 = .ok (.invokevirtual 96, 3) := by decide +kernel
theorem dL_refused_104 : decode cL_refused 104 = .ok (.ldc 35, 2) := by decide +kernel
theorem dL_refused_106 : decode cL_refused 106 = .ok (.if_icmp .ne 167, 3) := by decide +kernel
theorem dL_refused_109 : decode cL_refused 109 = .ok (.aload_n 0, 1) := by decide +kernel
theorem dL_refused_110 : decode cL_refused 110 = .ok (.iconst 2, 1) := by decide +kernel
theorem dL_refused_111 : decode cL_refused 111 = .ok (.iconst (-1), 1) := by decide +kernel
theorem dL_refused_112 : decode cL_refused 112 = .ok (.invokevirtual 96, 3) := by decide +kernel
theorem dL_refused_115 : decode cL_refused 115 = .ok (.ldc 35, 2) := by decide +kernel
theorem dL_refused_117 : decode cL_refused 117 = .ok (.if_icmp .ne 156, 3) := by decide +kernel
theorem dL_refused_120 : decode cL_refused 120 = .ok (.aload_n 0, 1) := by decide +kernel
theorem dL_refused_121 : decode cL_refused 121 = .ok (.iconst 2, 1) := by decide +kernel
theorem dL_refused_122 : decode cL_refused 122 = .ok (.sipush 601, 3) := by decide +kernel
theorem dL_refused_125 : decode cL_refused 125 = .ok (.invokevirtual 96, 3) := by decide +kernel
theorem dL_refused_128 : decode cL_refused 128 = .ok (.ldc 35, 2) := by decide +kernel
theorem dL_refused_130 : decode cL_refused 130 = .ok (.if_icmp .ne 143, 3) := by decide +kernel
theorem dL_refused_133 : decode cL_refused 133 = .ok (.aload_n 0, 1) := by decide +kernel
theorem dL_refused_134 : decode cL_refused 134 = .ok (.iconst 3, 1) := by decide +kernel
theorem dL_refused_135 : decode cL_refused 135 = .ok (.iconst 2, 1) := by decide +kernel
theorem dL_refused_136 : decode cL_refused 136 = .ok (.invokevirtual 96, 3) := by decide +kernel
theorem dL_refused_139 : decode cL_refused 139 = .ok (.ldc 35, 2) := by decide +kernel
theorem dL_refused_141 : decode cL_refused 141 = .ok (.if_icmp .ne 132, 3) := by decide +kernel
theorem dL_refused_144 : decode cL_refused 144 = .ok (.aload_n 0, 1) := by decide +kernel
theorem dL_refused_145 : decode cL_refused 145 = .ok (.iconst 3, 1) := by decide +kernel
theorem dL_refused_146 : decode cL_refused 146 = .ok (.iconst (-1), 1) := by decide +kernel
theorem dL_refused_147 : decode cL_refused 147 = .ok (.invokevirtual 96, 3) := by decide +kernel
theorem dL_refused_150 : decode cL_refused 150 = .ok (.ldc 35, 2) := by decide +kernel
theorem dL_refused_152 : decode cL_refused 152 = .ok (.if_icmp .ne 121, 3) := by decide +kernel
theorem dL_refused_155 : decode cL_refused 155 = .ok (.aload_n 0, 1) := by decide +kernel
theorem dL_refused_156 : decode cL_refused 156 = .ok (.iconst (-1), 1) := by decide +kernel
theorem dL_refused_157 : decode cL_refused 157 = .ok (.invokevirtual 13, 3) := by decide +kernel
theorem dL_refused_160 : decode cL_refused 160 = .ok (.ldc 35, 2) := by decide +kernel
theorem dL_refused_162 : decode cL_refused 162 = .ok (.if_icmp .ne 111, 3) := by decide +kernel
theorem dL_refused_165 : decode cL_refused 165 = .ok (.aload_n 0, 1) := by decide +kernel
theorem dL_refused_166 : decode cL_refused 166 = .ok (.bipush 9, 2) := by decide +kernel
theorem dL_refused_168 : decode cL_refused 168 = .ok (.invokevirtual 13, 3) := by decide +kernel
theorem dL_refused_171 : decode cL_refused 171 = .ok (.ldc 35, 2) := by decide +kernel
theorem dL_refused_173 : decode cL_refused 173 = .ok (.if_icmp .ne 100, 3) := by decide +kernel
theorem dL_refused_176 : decode cL_refused 176 = .ok (.aload_n 0, 1) := by decide +kernel
theorem dL_refused_177 : decode cL_refused 177 = .ok (.bipush 14, 2) := by decide +kernel
theorem dL_refused_179 : decode cL_refused 179 = .ok (.invokevirtual 13, 3) := by decide +kernel
theorem dL_refused_182 : decode cL_refused 182 = .ok (.ldc 35, 2) := by decide +kernel
theorem dL_refused_184 : decode cL_refused 184 = .ok (.if_icmp .ne 89, 3) := by decide +kernel
theorem dL_refused_187 : decode cL_refused 187 = .ok (.aload_n 0, 1) := by decide +kernel
theorem dL_refused_188 : decode cL_refused 188 = .ok (.bipush 19, 2) := by decide +kernel
theorem dL_refused_190 : decode cL_refused 190 = .ok (.invokevirtual 13, 3) := by decide +kernel
theorem dL_refused_193 : decode cL_refused 193 = .ok (.ldc 35, 2) := by decide +kernel
theorem dL_refused_195 : decode cL_refused 195 = .ok (.if_icmp .ne 78, 3) := by decide +kernel
theorem dL_refused_198 : decode cL_refused 198 = .ok (.aload_n 0, 1) := by decide +kernel
theorem dL_refused_199 : decode cL_refused 199 = .ok (.bipush 25, 2) := by decide +kernel
theorem dL_refused_201 : decode cL_refused 201 = .ok (.invokevirtual 13, 3) := by decide +kernel
theorem dL_refused_204 : decode cL_refused 204 = .ok (.ldc 35, 2) := by decide +kernel
theorem dL_refused_206 : decode cL_refused 206 = .ok (.if_icmp .ne 67, 3) := by decide +kernel
theorem dL_refused_209 : decode cL_refused 209 = .ok (.aload_n 0, 1) := by decide +kernel
theorem dL_refused_210 : decode cL_refused 210 = .ok (.iconst 0, 1) := by decide +kernel
theorem dL_refused_211 : decode cL_refused 211 = .ok (.invokevirtual 99, 3) := by decide +kernel
theorem dL_refused_214 : decode cL_refused 214 = .ok (.ldc 35, 2) := by decide +kernel
theorem dL_refused_216 : decode cL_refused 216 = .ok (.if_icmp .ne 57, 3) := by decide +kernel
theorem dL_refused_219 : decode cL_refused 219 = .ok (.aload_n 0, 1) := by decide +kernel
theorem dL_refused_220 : decode cL_refused 220 = .ok (.sipush 601, 3) := by decide +kernel
theorem dL_refused_223 : decode cL_refused 223 = .ok (.invokevirtual 99, 3) := by decide +kernel
theorem dL_refused_226 : decode cL_refused 226 = .ok (.ldc 35, 2) := by decide +kernel
theorem dL_refused_228 : decode cL_refused 228 = .ok (.if_icmp .ne 45, 3) := by decide +kernel
theorem dL_refused_231 : decode cL_refused 231 = .ok (.aload_n 0, 1) := by decide +kernel
theorem dL_refused_232 : decode cL_refused 232 = .ok (.bipush 31, 2) := by decide +kernel
theorem dL_refused_234 : decode cL_refused 234 = .ok (.invokevirtual 102, 3) := by decide +kernel
theorem dL_refused_237 : decode cL_refused 237 = .ok (.ldc 35, 2) := by decide +kernel
theorem dL_refused_239 : decode cL_refused 239 = .ok (.if_icmp .ne 34, 3) := by decide +kernel
theorem dL_refused_242 : decode cL_refused 242 = .ok (.aload_n 0, 1) := by decide +kernel
theorem dL_refused_243 : decode cL_refused 243 = .ok (.bipush 127, 2) := by decide +kernel
theorem dL_refused_245 : decode cL_refused 245 = .ok (.invokevirtual 102, 3) := by decide +kernel
theorem dL_refused_248 : decode cL_refused 248 = .ok (.ldc 35, 2) := by decide +kernel
theorem dL_refused_250 : decode cL_refused 250 = .ok (.if_icmp .ne 23, 3) := by decide +kernel
theorem dL_refused_253 : decode cL_refused 253 = .ok (.aload_n 0, 1) := by decide +kernel
theorem dL_refused_254 : decode cL_refused 254 = .ok (.iconst (-1), 1) := by decide +kernel
theorem dL_refused_255 : decode cL_refused 255 = .ok (.invokevirtual 105, 3) := by decide +kernel
theorem dL_refused_258 : decode cL_refused 258 = .ok (.ldc 35, 2) := by decide +kernel
theorem dL_refused_260 : decode cL_refused 260 = .ok (.if_icmp .ne 13, 3) := by decide +kernel
theorem dL_refused_263 : decode cL_refused 263 = .ok (.aload_n 0, 1) := by decide +kernel
theorem dL_refused_264 : decode cL_refused 264 = .ok (.iconst 2, 1) := by decide +kernel
theorem dL_refused_265 : decode cL_refused 265 = .ok (.invokevirtual 105, 3) := by decide +kernel
theorem dL_refused_268 : decode cL_refused 268 = .ok (.ldc 35, 2) := by decide +kernel
theorem dL_refused_270 : decode cL_refused 270 = .ok (.if_icmp .eq 5, 3) := by decide +kernel
theorem dL_refused_273 : decode cL_refused 273 = .ok (.iconst 0, 1) := by decide +kernel
theorem dL_refused_274 : decode cL_refused 274 = .ok (.ireturn, 1) := by decide +kernel
theorem dL_refused_275 : decode cL_refused 275 = .ok (.aload_n 0, 1) := by decide +kernel
theorem dL_refused_276 : decode cL_refused 276 = .ok (.invokestatic 85, 3) := by decide +kernel
theorem dL_refused_279 : decode cL_refused 279 = .ok (.aload_n 0, 1) := by decide +kernel
theorem dL_refused_280 : decode cL_refused 280 = .ok (.bipush 7, 2) := by decide +kernel
theorem dL_refused_282 : decode cL_refused 282 = .ok (.invokevirtual 13, 3) := by decide +kernel
theorem dL_refused_285 : decode cL_refused 285 = .ok (.i2l, 1) := by decide +kernel
theorem dL_refused_286 : decode cL_refused 286 = .ok (.invokestatic 19, 3) := by decide +kernel
theorem dL_refused_289 : decode cL_refused 289 = .ok (.aload_n 0, 1) := by decide +kernel
theorem dL_refused_290 : decode cL_refused 290 = .ok (.bipush 8, 2) := by decide +kernel
theorem dL_refused_292 : decode cL_refused 292 = .ok (.invokevirtual 13, 3) := by decide +kernel
theorem dL_refused_295 : decode cL_refused 295 = .ok (.i2l, 1) := by decide +kernel
theorem dL_refused_296 : decode cL_refused 296 = .ok (.invokestatic 19, 3) := by decide +kernel
theorem dL_refused_299 : decode cL_refused 299 = .ok (.lload_n 1, 1) := by decide +kernel
theorem dL_refused_300 : decode cL_refused 300 = .ok (.lcmp, 1) := by decide +kernel
theorem dL_refused_301 : decode cL_refused 301 = .ok (.ifCond .ne 7, 3) := by decide +kernel
theorem dL_refused_304 : decode cL_refused 304 = .ok (.iconst 1, 1) := by decide +kernel
theorem dL_refused_305 : decode cL_refused 305 = .ok (.goto 4, 3) := by decide +kernel
theorem dL_refused_308 : decode cL_refused 308 = .ok (.iconst 0, 1) := by decide +kernel
theorem dL_refused_309 : decode cL_refused 309 = .ok (.ireturn, 1) := by decide +kernel
theorem dL_types_0 : decode cL_types 0 = .ok (.bipush 7, 2) := by decide +kernel
theorem dL_types_2 : decode cL_types 2 = .ok (.istore_n 3, 1) := by decide +kernel
theorem dL_types_3 : decode cL_types 3 = .ok (.iload_n 3, 1) := by decide +kernel
theorem dL_types_4 : decode cL_types 4 = .ok (.ifCond .lt 34, 3) := by decide +kernel
theorem dL_types_7 : decode cL_types 7 = .ok (.lload_n 1, 1) := by decide +kernel
theorem dL_types_8 : decode cL_types 8 = .ok (.bipush 8, 2) := by decide +kernel
theorem dL_types_10 : decode cL_types 10 = .ok (.iload_n 3, 1) := by decide +kernel
theorem dL_types_11 : decode cL_types 11 = .ok (.imul, 1) := by decide +kernel
theorem dL_types_12 : decode cL_types 12 = .ok (.lshr, 1) := by decide +kernel
theorem dL_types_13 : decode cL_types 13 = .ok (.ldc2_w 108, 3) := by decide +kernel
theorem dL_types_16 : decode cL_types 16 = .ok (.land, 1) := by decide +kernel
theorem dL_types_17 : decode cL_types 17 = .ok (.l2i, 1) := by decide +kernel
theorem dL_types_18 : decode cL_types 18 = .ok (.istore 4, 2) := by decide +kernel
theorem dL_types_20 : decode cL_types 20 = .ok (.iload 4, 2) := by decide +kernel
theorem dL_types_22 : decode cL_types 22 = .ok (.ifCond .eq 10, 3) := by decide +kernel
theorem dL_types_25 : decode cL_types 25 = .ok (.aload_n 0, 1) := by decide +kernel
theorem dL_types_26 : decode cL_types 26 = .ok (.iload 4, 2) := by decide +kernel
theorem dL_types_28 : decode cL_types 28 = .ok (.invokevirtual 102, 3) := by decide +kernel
theorem dL_types_31 : decode cL_types 31 = .ok (.pop, 1) := by decide +kernel
theorem dL_types_32 : decode cL_types 32 = .ok (.iinc 3 (-1), 3) := by decide +kernel
theorem dL_types_35 : decode cL_types 35 = .ok (.goto (-32), 3) := by decide +kernel
theorem dL_types_38 : decode cL_types 38 = .ok (.return_, 1) := by decide +kernel
theorem dL_isFault_0 : decode cL_isFault 0 = .ok (.aload_n 0, 1) := by decide +kernel
theorem dL_isFault_1 : decode cL_isFault 1 = .ok (.invokevirtual 110, 3) := by decide +kernel
theorem dL_isFault_4 : decode cL_isFault 4 = .ok (.pop, 1) := by decide +kernel
theorem dL_isFault_5 : decode cL_isFault 5 = .ok (.aload_n 0, 1) := by decide +kernel
theorem dL_isFault_6 : decode cL_isFault 6 = .ok (.lload_n 1, 1) := by decide +kernel
theorem dL_isFault_7 : decode cL_isFault 7 = .ok (.invokestatic 113, 3) := by decide +kernel
theorem dL_isFault_10 : decode cL_isFault 10 = .ok (.aload_n 0, 1) := by decide +kernel
theorem dL_isFault_11 : decode cL_isFault 11 = .ok (.lload_n 3, 1) := by decide +kernel
theorem dL_isFault_12 : decode cL_isFault 12 = .ok (.invokestatic 113, 3) := by decide +kernel
theorem dL_isFault_15 : decode cL_isFault 15 = .ok (.aload_n 0, 1) := by decide +kernel
theorem dL_isFault_16 : decode cL_isFault 16 = .ok (.iconst 0, 1) := by decide +kernel
theorem dL_isFault_17 : decode cL_isFault 17 = .ok (.invokevirtual 105, 3) := by decide +kernel
theorem dL_isFault_20 : decode cL_isFault 20 = .ok (.iload 5, 2) := by decide +kernel
theorem dL_isFault_22 : decode cL_isFault 22 = .ok (.if_icmp .ne 17, 3) := by decide +kernel
theorem dL_isFault_25 : decode cL_isFault 25 = .ok (.aload_n 0, 1) := by decide +kernel
theorem dL_isFault_26 : decode cL_isFault 26 = .ok (.iconst 1, 1) := by decide +kernel
theorem dL_isFault_27 : decode cL_isFault 27 = .ok (.invokevirtual 105, 3) := by decide +kernel
theorem dL_isFault_30 : decode cL_isFault 30 = .ok (.iload 6, 2) := by decide +kernel
theorem dL_isFault_32 : decode cL_isFault 32 = .ok (.if_icmp .ne 7, 3) := by decide +kernel
theorem dL_isFault_35 : decode cL_isFault 35 = .ok (.iconst 1, 1) := by decide +kernel
theorem dL_isFault_36 : decode cL_isFault 36 = .ok (.goto 4, 3) := by decide +kernel
theorem dL_isFault_39 : decode cL_isFault 39 = .ok (.iconst 0, 1) := by decide +kernel
theorem dL_isFault_40 : decode cL_isFault 40 = .ok (.ireturn, 1) := by decide +kernel
theorem dL_texts_0 : decode cL_texts 0 = .ok (.new 14, 3) := by decide +kernel
theorem dL_texts_3 : decode cL_texts 3 = .ok (.dup, 1) := by decide +kernel
theorem dL_texts_4 : decode cL_texts 4 = .ok (.invokespecial 117, 3) := by decide +kernel
theorem dL_texts_7 : decode cL_texts 7 = .ok (.astore_n 0, 1) := by decide +kernel
theorem dL_texts_8 : decode cL_texts 8 = .ok (.aload_n 0, 1) := by decide +kernel
theorem dL_texts_9 : decode cL_texts 9 = .ok (.invokevirtual 118, 3) := by decide +kernel
theorem dL_texts_12 : decode cL_texts 12 = .ok (.ifCond .ne 23, 3) := by decide +kernel
theorem dL_texts_15 : decode cL_texts 15 = .ok (.aload_n 0, 1) := by decide +kernel
theorem dL_texts_16 : decode cL_texts 16 = .ok (.bipush 7, 2) := by decide +kernel
theorem dL_texts_18 : decode cL_texts 18 = .ok (.invokevirtual 13, 3) := by decide +kernel
theorem dL_texts_21 : decode cL_texts 21 = .ok (.iconst 1, 1) := by decide +kernel
theorem dL_texts_22 : decode cL_texts 22 = .ok (.if_icmp .ne 13, 3) := by decide +kernel
theorem dL_texts_25 : decode cL_texts 25 = .ok (.aload_n 0, 1) := by decide +kernel
theorem dL_texts_26 : decode cL_texts 26 = .ok (.bipush 100, 2) := by decide +kernel
theorem dL_texts_28 : decode cL_texts 28 = .ok (.iconst 5, 1) := by decide +kernel
theorem dL_texts_29 : decode cL_texts 29 = .ok (.invokevirtual 68, 3) := by decide +kernel
theorem dL_texts_32 : decode cL_texts 32 = .ok (.ifCond .eq 5, 3) := by decide +kernel
theorem dL_texts_35 : decode cL_texts 35 = .ok (.iconst 0, 1) := by decide +kernel
theorem dL_texts_36 : decode cL_texts 36 = .ok (.ireturn, 1) := by decide +kernel
theorem dL_texts_37 : decode cL_texts 37 = .ok (.aload_n 0, 1) := by decide +kernel
theorem dL_texts_38 : decode cL_texts 38 = .ok (.ldc2_w 121, 3) := by decide +kernel
theorem dL_texts_41 : decode cL_texts 41 = .ok (.lconst 0, 1) := by decide +kernel
theorem dL_texts_42 : decode cL_texts 42 = .ok (.ldc 60, 2) := by decide +kernel
theorem dL_texts_44 : decode cL_texts 44 = .ok (.ldc 60, 2) := by decide +kernel
theorem dL_texts_46 : decode cL_texts 46 = .ok (.invokestatic 123, 3) := by decide +kernel
theorem dL_texts_49 : decode cL_texts 49 = .ok (.ifCond .eq 42, 3) := by decide +kernel
theorem dL_texts_52 : decode cL_texts 52 = .ok (.aload_n 0, 1) := by decide +kernel
theorem dL_texts_53 : decode cL_texts 53 = .ok (.lconst 0, 1) := by decide +kernel
theorem dL_texts_54 : decode cL_texts 54 = .ok (.lconst 0, 1) := by decide +kernel
theorem dL_texts_55 : decode cL_texts 55 = .ok (.ldc 60, 2) := by decide +kernel
theorem dL_texts_57 : decode cL_texts 57 = .ok (.ldc 60, 2) := by decide +kernel
theorem dL_texts_59 : decode cL_texts 59 = .ok (.invokestatic 123, 3) := by decide +kernel
theorem dL_texts_62 : decode cL_texts 62 = .ok (.ifCond .eq 29, 3) := by decide +kernel
theorem dL_texts_65 : decode cL_texts 65 = .ok (.aload_n 0, 1) := by decide +kernel
theorem dL_texts_66 : decode cL_texts 66 = .ok (.ldc2_w 127, 3) := by decide +kernel
theorem dL_texts_69 : decode cL_texts 69 = .ok (.lconst 0, 1) := by decide +kernel
theorem dL_texts_70 : decode cL_texts 70 = .ok (.iconst 0, 1) := by decide +kernel
theorem dL_texts_71 : decode cL_texts 71 = .ok (.iconst 1, 1) := by decide +kernel
theorem dL_texts_72 : decode cL_texts 72 = .ok (.invokestatic 123, 3) := by decide +kernel
theorem dL_texts_75 : decode cL_texts 75 = .ok (.ifCond .eq 16, 3) := by decide +kernel
theorem dL_texts_78 : decode cL_texts 78 = .ok (.aload_n 0, 1) := by decide +kernel
theorem dL_texts_79 : decode cL_texts 79 = .ok (.ldc2_w 129, 3) := by decide +kernel
theorem dL_texts_82 : decode cL_texts 82 = .ok (.lconst 0, 1) := by decide +kernel
theorem dL_texts_83 : decode cL_texts 83 = .ok (.iconst 0, 1) := by decide +kernel
theorem dL_texts_84 : decode cL_texts 84 = .ok (.iconst 1, 1) := by decide +kernel
theorem dL_texts_85 : decode cL_texts 85 = .ok (.invokestatic 123, 3) := by decide +kernel
theorem dL_texts_88 : decode cL_texts 88 = .ok (.ifCond .ne 5, 3) := by decide +kernel
theorem dL_texts_91 : decode cL_texts 91 = .ok (.iconst 0, 1) := by decide +kernel
theorem dL_texts_92 : decode cL_texts 92 = .ok (.ireturn, 1) := by decide +kernel
theorem dL_texts_93 : decode cL_texts 93 = .ok (.aload_n 0, 1) := by decide +kernel
theorem dL_texts_94 : decode cL_texts 94 = .ok (.ldc2_w 131, 3) := by decide +kernel
theorem dL_texts_97 : decode cL_texts 97 = .ok (.ldc2_w 133, 3) := by decide +kernel
theorem dL_texts_100 : decode cL_texts 100 = .ok (.iconst 4, 1) := by decide +kernel
theorem dL_texts_101 : decode cL_texts 101 = .ok (.iconst 2, 1) := by decide +kernel
theorem dL_texts_102 : decode cL_texts 102 = .ok (.invokestatic 123, 3) := by decide +kernel
theorem dL_texts_105 : decode cL_texts 105 = .ok (.ifCond .eq 42, 3) := by decide +kernel
theorem dL_texts_108 : decode cL_texts 108 = .ok (.aload_n 0, 1) := by decide +kernel
theorem dL_texts_109 : decode cL_texts 109 = .ok (.ldc2_w 135, 3) := by decide +kernel
theorem dL_texts_112 : decode cL_texts 112 = .ok (.lconst 0, 1) := by decide +kernel
theorem dL_texts_113 : decode cL_texts 113 = .ok (.iconst 0, 1) := by decide +kernel
theorem dL_texts_114 : decode cL_texts 114 = .ok (.iconst 2, 1) := by decide +kernel
theorem dL_texts_115 : decode cL_texts 115 = .ok (.invokestatic 123, 3) := by decide +kernel
theorem dL_texts_118 : decode cL_texts 118 = .ok (.ifCond .eq 29, 3) := by decide +kernel
theorem dL_texts_121 : decode cL_texts 121 = .ok (.aload_n 0, 1) := by decide +kernel
theorem dL_texts_122 : decode cL_texts 122 = .ok (.ldc2_w 137, 3) := by decide +kernel
theorem dL_texts_125 : decode cL_texts 125 = .ok (.lconst 0, 1) := by decide +kernel
theorem dL_texts_126 : decode cL_texts 126 = .ok (.iconst 0, 1) := by decide +kernel
theorem dL_texts_127 : decode cL_texts 127 = .ok (.iconst 1, 1) := by decide +kernel
theorem dL_texts_128 : decode cL_texts 128 = .ok (.invokestatic 123, 3) := by decide +kernel
theorem dL_texts_131 : decode cL_texts 131 = .ok (.ifCond .eq 16, 3) := by decide +kernel
theorem dL_texts_134 : decode cL_texts 134 = .ok (.aload_n 0, 1) := by decide +kernel
theorem dL_texts_135 : decode cL_texts 135 = .ok (.ldc2_w 139, 3) := by decide +kernel
theorem dL_texts_138 : decode cL_texts 138 = .ok (.lconst 0, 1) := by decide +kernel
theorem dL_texts_139 : decode cL_texts 139 = .ok (.iconst 0, 1) := by decide +kernel
theorem dL_texts_140 : decode cL_texts 140 = .ok (.iconst 1, 1) := by decide +kernel
theorem dL_texts_141 : decode cL_texts 141 = .ok (.invokestatic 123, 3) := by decide +kernel
theorem dL_texts_144 : decode cL_texts 144 = .ok (.ifCond .ne 5, 3) := by decide +kernel
theorem dL_texts_147 : decode cL_texts 147 = .ok (.iconst 0, 1) := by decide +kernel
theorem dL_texts_148 : decode cL_texts 148 = .ok (.ireturn, 1) := by decide +kernel
theorem dL_texts_149 : decode cL_texts 149 = .ok (.aload_n 0, 1) := by decide +kernel
theorem dL_texts_150 : decode cL_texts 150 = .ok (.ldc2_w 141, 3) := by decide +kernel
theorem dL_texts_153 : decode cL_texts 153 = .ok (.lconst 0, 1) := by decide +kernel
theorem dL_texts_154 : decode cL_texts 154 = .ok (.iconst 0, 1) := by decide +kernel
theorem dL_texts_155 : decode cL_texts 155 = .ok (.iconst 3, 1) := by decide +kernel
theorem dL_texts_156 : decode cL_texts 156 = .ok (.invokestatic 123, 3) := by decide +kernel
theorem dL_texts_159 : decode cL_texts 159 = .ok (.ifCond .eq 44, 3) := by decide +kernel
theorem dL_texts_162 : decode cL_texts 162 = .ok (.aload_n 0, 1) := by decide +kernel
theorem dL_texts_163 : decode cL_texts 163 = .ok (.ldc2_w 143, 3) := by decide +kernel
theorem dL_texts_166 : decode cL_texts 166 = .ok (.ldc2_w 145, 3) := by decide +kernel
theorem dL_texts_169 : decode cL_texts 169 = .ok (.iconst 4, 1) := by decide +kernel
theorem dL_texts_170 : decode cL_texts 170 = .ok (.iconst 3, 1) := by decide +kernel
theorem dL_texts_171 : decode cL_texts 171 = .ok (.invokestatic 123, 3) := by decide +kernel
theorem dL_texts_174 : decode cL_texts 174 = .ok (.ifCond .eq 29, 3) := by decide +kernel
theorem dL_texts_177 : decode cL_texts 177 = .ok (.aload_n 0, 1) := by decide +kernel
theorem dL_texts_178 : decode cL_texts 178 = .ok (.ldc2_w 147, 3) := by decide +kernel
theorem dL_texts_181 : decode cL_texts 181 = .ok (.lconst 0, 1) := by decide +kernel
theorem dL_texts_182 : decode cL_texts 182 = .ok (.iconst 0, 1) := by decide +kernel
theorem dL_texts_183 : decode cL_texts 183 = .ok (.iconst 1, 1) := by decide +kernel
theorem dL_texts_184 : decode cL_texts 184 = .ok (.invokestatic 123, 3) := by decide +kernel
theorem dL_texts_187 : decode cL_texts 187 = .ok (.ifCond .eq 16, 3) := by decide +kernel
theorem dL_texts_190 : decode cL_texts 190 = .ok (.aload_n 0, 1) := by decide +kernel
theorem dL_texts_191 : decode cL_texts 191 = .ok (.ldc2_w 149, 3) := by decide +kernel
theorem dL_texts_194 : decode cL_texts 194 = .ok (.lconst 0, 1) := by decide +kernel
theorem dL_texts_195 : decode cL_texts 195 = .ok (.iconst 4, 1) := by decide +kernel
theorem dL_texts_196 : decode cL_texts 196 = .ok (.iconst 1, 1) := by decide +kernel
theorem dL_texts_197 : decode cL_texts 197 = .ok (.invokestatic 123, 3) := by decide +kernel
theorem dL_texts_200 : decode cL_texts 200 = .ok (.ifCond .ne 5, 3) := by decide +kernel
theorem dL_texts_203 : decode cL_texts 203 = .ok (.iconst 0, 1) := by decide +kernel
theorem dL_texts_204 : decode cL_texts 204 = .ok (.ireturn, 1) := by decide +kernel
theorem dL_texts_205 : decode cL_texts 205 = .ok (.aload_n 0, 1) := by decide +kernel
theorem dL_texts_206 : decode cL_texts 206 = .ok (.ldc2_w 151, 3) := by decide +kernel
theorem dL_texts_209 : decode cL_texts 209 = .ok (.ldc2_w 153, 3) := by decide +kernel
theorem dL_texts_212 : decode cL_texts 212 = .ok (.ldc 60, 2) := by decide +kernel
theorem dL_texts_214 : decode cL_texts 214 = .ok (.ldc 60, 2) := by decide +kernel
theorem dL_texts_216 : decode cL_texts 216 = .ok (.invokestatic 123, 3) := by decide +kernel
theorem dL_texts_219 : decode cL_texts 219 = .ok (.ifCond .eq 46, 3) := by decide +kernel
theorem dL_texts_222 : decode cL_texts 222 = .ok (.aload_n 0, 1) := by decide +kernel
theorem dL_texts_223 : decode cL_texts 223 = .ok (.ldc2_w 155, 3) := by decide +kernel
theorem dL_texts_226 : decode cL_texts 226 = .ok (.ldc2_w 153, 3) := by decide +kernel
theorem dL_texts_229 : decode cL_texts 229 = .ok (.ldc 60, 2) := by decide +kernel
theorem dL_texts_231 : decode cL_texts 231 = .ok (.ldc 60, 2) := by decide +kernel
theorem dL_texts_233 : decode cL_texts 233 = .ok (.invokestatic 123, 3) := by decide +kernel
theorem dL_texts_236 : decode cL_texts 236 = .ok (.ifCond .eq 29, 3) := by decide +kernel
theorem dL_texts_239 : decode cL_texts 239 = .ok (.aload_n 0, 1) := by decide +kernel
theorem dL_texts_240 : decode cL_texts 240 = .ok (.ldc2_w 157, 3) := by decide +kernel
theorem dL_texts_243 : decode cL_texts 243 = .ok (.lconst 0, 1) := by decide +kernel
theorem dL_texts_244 : decode cL_texts 244 = .ok (.iconst 0, 1) := by decide +kernel
theorem dL_texts_245 : decode cL_texts 245 = .ok (.iconst 1, 1) := by decide +kernel
theorem dL_texts_246 : decode cL_texts 246 = .ok (.invokestatic 123, 3) := by decide +kernel
theorem dL_texts_249 : decode cL_texts 249 = .ok (.ifCond .eq 16, 3) := by decide +kernel
theorem dL_texts_252 : decode cL_texts 252 = .ok (.aload_n 0, 1) := by decide +kernel
theorem dL_texts_253 : decode cL_texts 253 = .ok (.ldc2_w 159, 3) := by decide +kernel
theorem dL_texts_256 : decode cL_texts 256 = .ok (.lconst 0, 1) := by decide +kernel
theorem dL_texts_257 : decode cL_texts 257 = .ok (.iconst 4, 1) := by decide +kernel
theorem dL_texts_258 : decode cL_texts 258 = .ok (.iconst 1, 1) := by decide +kernel
theorem dL_texts_259 : decode cL_texts 259 = .ok (.invokestatic 123, 3) := by decide +kernel
theorem dL_texts_262 : decode cL_texts 262 = .ok (.ifCond .ne 5, 3) := by decide +kernel
theorem dL_texts_265 : decode cL_texts 265 = .ok (.iconst 0, 1) := by decide +kernel
theorem dL_texts_266 : decode cL_texts 266 = .ok (.ireturn, 1) := by decide +kernel
theorem dL_texts_267 : decode cL_texts 267 = .ok (.aload_n 0, 1) := by decide +kernel
theorem dL_texts_268 : decode cL_texts 268 = .ok (.ldc2_w 161, 3) := by decide +kernel
theorem dL_texts_271 : decode cL_texts 271 = .ok (.ldc2_w 163, 3) := by decide +kernel
theorem dL_texts_274 : decode cL_texts 274 = .ok (.iconst 0, 1) := by decide +kernel
theorem dL_texts_275 : decode cL_texts 275 = .ok (.iconst 2, 1) := by decide +kernel
theorem dL_texts_276 : decode cL_texts 276 = .ok (.invokestatic 123, 3) := by decide +kernel
theorem dL_texts_279 : decode cL_texts 279 = .ok (.ifCond .eq 45, 3) := by decide +kernel
theorem dL_texts_282 : decode cL_texts 282 = .ok (.aload_n 0, 1) := by decide +kernel
theorem dL_texts_283 : decode cL_texts 283 = .ok (.ldc2_w 165, 3) := by decide +kernel
theorem dL_texts_286 : decode cL_texts 286 = .ok (.ldc2_w 167, 3) := by decide +kernel
theorem dL_texts_289 : decode cL_texts 289 = .ok (.bipush 12, 2) := by decide +kernel
theorem dL_texts_291 : decode cL_texts 291 = .ok (.iconst 1, 1) := by decide +kernel
theorem dL_texts_292 : decode cL_texts 292 = .ok (.invokestatic 123, 3) := by decide +kernel
theorem dL_texts_295 : decode cL_texts 295 = .ok (.ifCond .eq 29, 3) := by decide +kernel
theorem dL_texts_298 : decode cL_texts 298 = .ok (.aload_n 0, 1) := by decide +kernel
theorem dL_texts_299 : decode cL_texts 299 = .ok (.ldc2_w 169, 3) := by decide +kernel
theorem dL_texts_302 : decode cL_texts 302 = .ok (.lconst 0, 1) := by decide +kernel
theorem dL_texts_303 : decode cL_texts 303 = .ok (.iconst 4, 1) := by decide +kernel
theorem dL_texts_304 : decode cL_texts 304 = .ok (.iconst 1, 1) := by decide +kernel
theorem dL_texts_305 : decode cL_texts 305 = .ok (.invokestatic 123, 3) := by decide +kernel
theorem dL_texts_308 : decode cL_texts 308 = .ok (.ifCond .eq 16, 3) := by decide +kernel
theorem dL_texts_311 : decode cL_texts 311 = .ok (.aload_n 0, 1) := by decide +kernel
theorem dL_texts_312 : decode cL_texts 312 = .ok (.ldc2_w 171, 3) := by decide +kernel
theorem dL_texts_315 : decode cL_texts 315 = .ok (.lconst 0, 1) := by decide +kernel
theorem dL_texts_316 : decode cL_texts 316 = .ok (.iconst 0, 1) := by decide +kernel
theorem dL_texts_317 : decode cL_texts 317 = .ok (.iconst 1, 1) := by decide +kernel
theorem dL_texts_318 : decode cL_texts 318 = .ok (.invokestatic 123, 3) := by decide +kernel
theorem dL_texts_321 : decode cL_texts 321 = .ok (.ifCond .ne 5, 3) := by decide +kernel
theorem dL_texts_324 : decode cL_texts 324 = .ok (.iconst 0, 1) := by decide +kernel
theorem dL_texts_325 : decode cL_texts 325 = .ok (.ireturn, 1) := by decide +kernel
theorem dL_texts_326 : decode cL_texts 326 = .ok (.aload_n 0, 1) := by decide +kernel
theorem dL_texts_327 : decode cL_texts 327 = .ok (.invokevirtual 118, 3) := by decide +kernel
theorem dL_texts_330 : decode cL_texts 330 = .ok (.ldc 84, 2) := by decide +kernel
theorem dL_texts_332 : decode cL_texts 332 = .ok (.if_icmp .ne 94, 3) := by decide +kernel
theorem dL_texts_335 : decode cL_texts 335 = .ok (.aload_n 0, 1) := by decide +kernel
theorem dL_texts_336 : decode cL_texts 336 = .ok (.ldc2_w 173, 3) := by decide +kernel
theorem dL_texts_339 : decode cL_texts 339 = .ok (.lconst 0, 1) := by decide +kernel
theorem dL_texts_340 : decode cL_texts 340 = .ok (.ldc 60, 2) := by decide +kernel
theorem dL_texts_342 : decode cL_texts 342 = .ok (.ldc 60, 2) := by decide +kernel
theorem dL_texts_344 : decode cL_texts 344 = .ok (.invokestatic 123, 3) := by decide +kernel
theorem dL_texts_347 : decode cL_texts 347 = .ok (.ifCond .eq 79, 3) := by decide +kernel
theorem dL_texts_350 : decode cL_texts 350 = .ok (.aload_n 0, 1) := by decide +kernel
theorem dL_texts_351 : decode cL_texts 351 = .ok (.invokevirtual 118, 3) := by decide +kernel
theorem dL_texts_354 : decode cL_texts 354 = .ok (.iconst 2, 1) := by decide +kernel
theorem dL_texts_355 : decode cL_texts 355 = .ok (.if_icmp .ne 71, 3) := by decide +kernel
theorem dL_texts_358 : decode cL_texts 358 = .ok (.aload_n 0, 1) := by decide +kernel
theorem dL_texts_359 : decode cL_texts 359 = .ok (.iconst 0, 1) := by decide +kernel
theorem dL_texts_360 : decode cL_texts 360 = .ok (.iconst 0, 1) := by decide +kernel
theorem dL_texts_361 : decode cL_texts 361 = .ok (.invokevirtual 29, 3) := by decide +kernel
theorem dL_texts_364 : decode cL_texts 364 = .ok (.iconst 3, 1) := by decide +kernel
theorem dL_texts_365 : decode cL_texts 365 = .ok (.if_icmp .ne 61, 3) := by decide +kernel
theorem dL_texts_368 : decode cL_texts 368 = .ok (.aload_n 0, 1) := by decide +kernel
theorem dL_texts_369 : decode cL_texts 369 = .ok (.iconst 0, 1) := by decide +kernel
theorem dL_texts_370 : decode cL_texts 370 = .ok (.iconst 1, 1) := by decide +kernel
theorem dL_texts_371 : decode cL_texts 371 = .ok (.invokevirtual 29, 3) := by decide +kernel
theorem dL_texts_374 : decode cL_texts 374 = .ok (.iconst 4, 1) := by decide +kernel
theorem dL_texts_375 : decode cL_texts 375 = .ok (.if_icmp .ne 51, 3) := by decide +kernel
theorem dL_texts_378 : decode cL_texts 378 = .ok (.aload_n 0, 1) := by decide +kernel
theorem dL_texts_379 : decode cL_texts 379 = .ok (.iconst 1, 1) := by decide +kernel
theorem dL_texts_380 : decode cL_texts 380 = .ok (.iconst 1, 1) := by decide +kernel
theorem dL_texts_381 : decode cL_texts 381 = .ok (.invokevirtual 29, 3) := by decide +kernel
theorem dL_texts_384 : decode cL_texts 384 = .ok (.bipush 8, 2) := by decide +kernel
theorem dL_texts_386 : decode cL_texts 386 = .ok (.if_icmp .ne 40, 3) := by decide +kernel
theorem dL_texts_389 : decode cL_texts 389 = .ok (.aload_n 0, 1) := by decide +kernel
theorem dL_texts_390 : decode cL_texts 390 = .ok (.iconst 2, 1) := by decide +kernel
theorem dL_texts_391 : decode cL_texts 391 = .ok (.iconst 0, 1) := by decide +kernel
theorem dL_texts_392 : decode cL_texts 392 = .ok (.invokevirtual 29, 3) := by decide +kernel
theorem dL_texts_395 : decode cL_texts 395 = .ok (.bipush 100, 2) := by decide +kernel
theorem dL_texts_397 : decode cL_texts 397 = .ok (.if_icmp .ne 29, 3) := by decide +kernel
theorem dL_texts_400 : decode cL_texts 400 = .ok (.aload_n 0, 1) := by decide +kernel
theorem dL_texts_401 : decode cL_texts 401 = .ok (.invokevirtual 118, 3) := by decide +kernel
theorem dL_texts_404 : decode cL_texts 404 = .ok (.ldc 84, 2) := by decide +kernel
theorem dL_texts_406 : decode cL_texts 406 = .ok (.if_icmp .ne 20, 3) := by decide +kernel
theorem dL_texts_409 : decode cL_texts 409 = .ok (.aload_n 0, 1) := by decide +kernel
theorem dL_texts_410 : decode cL_texts 410 = .ok (.iconst 0, 1) := by decide +kernel
theorem dL_texts_411 : decode cL_texts 411 = .ok (.invokevirtual 105, 3) := by decide +kernel
theorem dL_texts_414 : decode cL_texts 414 = .ok (.ifCond .ne 12, 3) := by decide +kernel
theorem dL_texts_417 : decode cL_texts 417 = .ok (.aload_n 0, 1) := by decide +kernel
theorem dL_texts_418 : decode cL_texts 418 = .ok (.iconst 1, 1) := by decide +kernel
theorem dL_texts_419 : decode cL_texts 419 = .ok (.invokevirtual 105, 3) := by decide +kernel
theorem dL_texts_422 : decode cL_texts 422 = .ok (.iconst 3, 1) := by decide +kernel
theorem dL_texts_423 : decode cL_texts 423 = .ok (.if_icmp .eq 5, 3) := by decide +kernel
theorem dL_texts_426 : decode cL_texts 426 = .ok (.iconst 0, 1) := by decide +kernel
theorem dL_texts_427 : decode cL_texts 427 = .ok (.ireturn, 1) := by decide +kernel
theorem dL_texts_428 : decode cL_texts 428 = .ok (.iconst 0, 1) := by decide +kernel
theorem dL_texts_429 : decode cL_texts 429 = .ok (.istore_n 1, 1) := by decide +kernel
theorem dL_texts_430 : decode cL_texts 430 = .ok (.iload_n 1, 1) := by decide +kernel
theorem dL_texts_431 : decode cL_texts 431 = .ok (.bipush 36, 2) := by decide +kernel
theorem dL_texts_433 : decode cL_texts 433 = .ok (.if_icmp .ge 27, 3) := by decide +kernel
theorem dL_texts_436 : decode cL_texts 436 = .ok (.aload_n 0, 1) := by decide +kernel
theorem dL_texts_437 : decode cL_texts 437 = .ok (.sipush 200, 3) := by decide +kernel
theorem dL_texts_440 : decode cL_texts 440 = .ok (.iload_n 1, 1) := by decide +kernel
theorem dL_texts_441 : decode cL_texts 441 = .ok (.iadd, 1) := by decide +kernel
theorem dL_texts_442 : decode cL_texts 442 = .ok (.iload_n 1, 1) := by decide +kernel
theorem dL_texts_443 : decode cL_texts 443 = .ok (.invokevirtual 68, 3) := by decide +kernel
theorem dL_texts_446 : decode cL_texts 446 = .ok (.iconst 3, 1) := by decide +kernel
theorem dL_texts_447 : decode cL_texts 447 = .ok (.iload_n 1, 1) := by decide +kernel
theorem dL_texts_448 : decode cL_texts 448 = .ok (.iadd, 1) := by decide +kernel
theorem dL_texts_449 : decode cL_texts 449 = .ok (.if_icmp .eq 5, 3) := by decide +kernel
theorem dL_texts_452 : decode cL_texts 452 = .ok (.iconst 0, 1) := by decide +kernel
theorem dL_texts_453 : decode cL_texts 453 = .ok (.ireturn, 1) := by decide +kernel
theorem dL_texts_454 : decode cL_texts 454 = .ok (.iinc 1 1, 3) := by decide +kernel
theorem dL_texts_457 : decode cL_texts 457 = .ok (.goto (-27), 3) := by decide +kernel
theorem dL_texts_460 : decode cL_texts 460 = .ok (.aload_n 0, 1) := by decide +kernel
theorem dL_texts_461 : decode cL_texts 461 = .ok (.ldc2_w 165, 3) := by decide +kernel
theorem dL_texts_464 : decode cL_texts 464 = .ok (.lconst 0, 1) := by decide +kernel
theorem dL_texts_465 : decode cL_texts 465 = .ok (.iconst 4, 1) := by decide +kernel
theorem dL_texts_466 : decode cL_texts 466 = .ok (.iconst 4, 1) := by decide +kernel
theorem dL_texts_467 : decode cL_texts 467 = .ok (.invokestatic 123, 3) := by decide +kernel
theorem dL_texts_470 : decode cL_texts 470 = .ok (.ifCond .eq 73, 3) := by decide +kernel
theorem dL_texts_473 : decode cL_texts 473 = .ok (.aload_n 0, 1) := by decide +kernel
theorem dL_texts_474 : decode cL_texts 474 = .ok (.iconst 1, 1) := by decide +kernel
theorem dL_texts_475 : decode cL_texts 475 = .ok (.iconst 1, 1) := by decide +kernel
theorem dL_texts_476 : decode cL_texts 476 = .ok (.invokevirtual 68, 3) := by decide +kernel
theorem dL_texts_479 : decode cL_texts 479 = .ok (.ifCond .ne 64, 3) := by decide +kernel
theorem dL_texts_482 : decode cL_texts 482 = .ok (.aload_n 0, 1) := by decide +kernel
theorem dL_texts_483 : decode cL_texts 483 = .ok (.iconst 2, 1) := by decide +kernel
theorem dL_texts_484 : decode cL_texts 484 = .ok (.iconst 1, 1) := by decide +kernel
theorem dL_texts_485 : decode cL_texts 485 = .ok (.invokevirtual 68, 3) := by decide +kernel
theorem dL_texts_488 : decode cL_texts 488 = .ok (.ldc 175, 2) := by decide +kernel
theorem dL_texts_490 : decode cL_texts 490 = .ok (.if_icmp .ne 53, 3) := by decide +kernel
theorem dL_texts_493 : decode cL_texts 493 = .ok (.aload_n 0, 1) := by decide +kernel
theorem dL_texts_494 : decode cL_texts 494 = .ok (.iconst 1, 1) := by decide +kernel
theorem dL_texts_495 : decode cL_texts 495 = .ok (.iconst 1, 1) := by decide +kernel
theorem dL_texts_496 : decode cL_texts 496 = .ok (.invokevirtual 68, 3) := by decide +kernel
theorem dL_texts_499 : decode cL_texts 499 = .ok (.ldc 84, 2) := by decide +kernel
theorem dL_texts_501 : decode cL_texts 501 = .ok (.if_icmp .ne 42, 3) := by decide +kernel
theorem dL_texts_504 : decode cL_texts 504 = .ok (.aload_n 0, 1) := by decide +kernel
theorem dL_texts_505 : decode cL_texts 505 = .ok (.iconst 1, 1) := by decide +kernel
theorem dL_texts_506 : decode cL_texts 506 = .ok (.sipush 6001, 3) := by decide +kernel
theorem dL_texts_509 : decode cL_texts 509 = .ok (.invokevirtual 68, 3) := by decide +kernel
theorem dL_texts_512 : decode cL_texts 512 = .ok (.ldc 35, 2) := by decide +kernel
theorem dL_texts_514 : decode cL_texts 514 = .ok (.if_icmp .ne 29, 3) := by decide +kernel
theorem dL_texts_517 : decode cL_texts 517 = .ok (.aload_n 0, 1) := by decide +kernel
theorem dL_texts_518 : decode cL_texts 518 = .ok (.iconst 0, 1) := by decide +kernel
theorem dL_texts_519 : decode cL_texts 519 = .ok (.invokevirtual 105, 3) := by decide +kernel
theorem dL_texts_522 : decode cL_texts 522 = .ok (.ifCond .ne 21, 3) := by decide +kernel
theorem dL_texts_525 : decode cL_texts 525 = .ok (.aload_n 0, 1) := by decide +kernel
theorem dL_texts_526 : decode cL_texts 526 = .ok (.iconst 1, 1) := by decide +kernel
theorem dL_texts_527 : decode cL_texts 527 = .ok (.invokevirtual 105, 3) := by decide +kernel
theorem dL_texts_530 : decode cL_texts 530 = .ok (.iconst 3, 1) := by decide +kernel
theorem dL_texts_531 : decode cL_texts 531 = .ok (.if_icmp .ne 12, 3) := by decide +kernel
theorem dL_texts_534 : decode cL_texts 534 = .ok (.aload_n 0, 1) := by decide +kernel
theorem dL_texts_535 : decode cL_texts 535 = .ok (.invokevirtual 110, 3) := by decide +kernel
theorem dL_texts_538 : decode cL_texts 538 = .ok (.bipush 8, 2) := by decide +kernel
theorem dL_texts_540 : decode cL_texts 540 = .ok (.if_icmp .eq 5, 3) := by decide +kernel
theorem dL_texts_543 : decode cL_texts 543 = .ok (.iconst 0, 1) := by decide +kernel
theorem dL_texts_544 : decode cL_texts 544 = .ok (.ireturn, 1) := by decide +kernel
theorem dL_texts_545 : decode cL_texts 545 = .ok (.iconst 1, 1) := by decide +kernel
theorem dL_texts_546 : decode cL_texts 546 = .ok (.istore_n 1, 1) := by decide +kernel
theorem dL_texts_547 : decode cL_texts 547 = .ok (.iload_n 1, 1) := by decide +kernel
theorem dL_texts_548 : decode cL_texts 548 = .ok (.bipush 100, 2) := by decide +kernel
theorem dL_texts_550 : decode cL_texts 550 = .ok (.if_icmp .gt 21, 3) := by decide +kernel
theorem dL_texts_553 : decode cL_texts 553 = .ok (.aload_n 0, 1) := by decide +kernel
theorem dL_texts_554 : decode cL_texts 554 = .ok (.bipush 49, 2) := by decide +kernel
theorem dL_texts_556 : decode cL_texts 556 = .ok (.invokevirtual 102, 3) := by decide +kernel
theorem dL_texts_559 : decode cL_texts 559 = .ok (.iload_n 1, 1) := by decide +kernel
theorem dL_texts_560 : decode cL_texts 560 = .ok (.if_icmp .eq 5, 3) := by decide +kernel
theorem dL_texts_563 : decode cL_texts 563 = .ok (.iconst 0, 1) := by decide +kernel
theorem dL_texts_564 : decode cL_texts 564 = .ok (.ireturn, 1) := by decide +kernel
theorem dL_texts_565 : decode cL_texts 565 = .ok (.iinc 1 1, 3) := by decide +kernel
theorem dL_texts_568 : decode cL_texts 568 = .ok (.goto (-21), 3) := by decide +kernel
theorem dL_texts_571 : decode cL_texts 571 = .ok (.aload_n 0, 1) := by decide +kernel
theorem dL_texts_572 : decode cL_texts 572 = .ok (.bipush 49, 2) := by decide +kernel
theorem dL_texts_574 : decode cL_texts 574 = .ok (.invokevirtual 102, 3) := by decide +kernel
theorem dL_texts_577 : decode cL_texts 577 = .ok (.ldc 175, 2) := by decide +kernel
theorem dL_texts_579 : decode cL_texts 579 = .ok (.if_icmp .ne 36, 3) := by decide +kernel
theorem dL_texts_582 : decode cL_texts 582 = .ok (.aload_n 0, 1) := by decide +kernel
theorem dL_texts_583 : decode cL_texts 583 = .ok (.bipush 31, 2) := by decide +kernel
theorem dL_texts_585 : decode cL_texts 585 = .ok (.invokevirtual 102, 3) := by decide +kernel
theorem dL_texts_588 : decode cL_texts 588 = .ok (.ldc 35, 2) := by decide +kernel
theorem dL_texts_590 : decode cL_texts 590 = .ok (.if_icmp .ne 25, 3) := by decide +kernel
theorem dL_texts_593 : decode cL_texts 593 = .ok (.aload_n 0, 1) := by decide +kernel
theorem dL_texts_594 : decode cL_texts 594 = .ok (.iconst 1, 1) := by decide +kernel
theorem dL_texts_595 : decode cL_texts 595 = .ok (.invokevirtual 105, 3) := by decide +kernel
theorem dL_texts_598 : decode cL_texts 598 = .ok (.iconst 1, 1) := by decide +kernel
theorem dL_texts_599 : decode cL_texts 599 = .ok (.if_icmp .ne 16, 3) := by decide +kernel
theorem dL_texts_602 : decode cL_texts 602 = .ok (.aload_n 0, 1) := by decide +kernel
theorem dL_texts_603 : decode cL_texts 603 = .ok (.invokevirtual 118, 3) := by decide +kernel
theorem dL_texts_606 : decode cL_texts 606 = .ok (.ldc 84, 2) := by decide +kernel
theorem dL_texts_608 : decode cL_texts 608 = .ok (.if_icmp .ne 7, 3) := by decide +kernel
theorem dL_texts_611 : decode cL_texts 611 = .ok (.iconst 1, 1) := by decide +kernel
theorem dL_texts_612 : decode cL_texts 612 = .ok (.goto 4, 3) := by decide +kernel
theorem dL_texts_615 : decode cL_texts 615 = .ok (.iconst 0, 1) := by decide +kernel
theorem dL_texts_616 : decode cL_texts 616 = .ok (.ireturn, 1) := by decide +kernel
