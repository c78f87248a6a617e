theorem dX7_weigh_88 : decode cX7_weigh 88 = .ok (.iinc 8 1, 3) := by decide +kernel
theorem dX7_weigh_91 : decode cX7_weigh 91 = .ok (.goto (-33), 3) := by decide +kernel
theorem dX7_weigh_94 : decode cX7_weigh 94 = .ok (.aload_n 0, 1) := by decide +kernel
theorem dX7_weigh_95 : decode cX7_weigh 95 = .ok (.iload_n 1, 1) := by decide +kernel
theorem dX7_weigh_96 : decode cX7_weigh 96 = .ok (.iload_n 2, 1) := by decide +kernel
theorem dX7_weigh_97 : decode cX7_weigh 97 = .ok (.lload 6, 2) := by decide +kernel
theorem dX7_weigh_99 : decode cX7_weigh 99 = .ok (.invokevirtual 72, 3) := by decide +kernel
theorem dX7_weigh_102 : decode cX7_weigh 102 = .ok (.pop, 1) := by decide +kernel
theorem dX7_weigh_103 : decode cX7_weigh 103 = .ok (.lload 6, 2) := by decide +kernel
theorem dX7_weigh_105 : decode cX7_weigh 105 = .ok (.lreturn, 1) := by decide +kernel
theorem dX7_bits_0 : decode cX7_bits 0 = .ok (.iload_n 1, 1) := by decide +kernel
theorem dX7_bits_1 : decode cX7_bits 1 = .ok (.invokestatic 58, 3) := by decide +kernel
theorem dX7_bits_4 : decode cX7_bits 4 = .ok (.ifCond .eq 12, 3) := by decide +kernel
theorem dX7_bits_7 : decode cX7_bits 7 = .ok (.aload_n 0, 1) := by decide +kernel
theorem dX7_bits_8 : decode cX7_bits 8 = .ok (.getfield 13, 3) := by decide +kernel
theorem dX7_bits_11 : decode cX7_bits 11 = .ok (.iload_n 1, 1) := by decide +kernel
theorem dX7_bits_12 : decode cX7_bits 12 = .ok (.laload, 1) := by decide +kernel
theorem dX7_bits_13 : decode cX7_bits 13 = .ok (.goto 6, 3) := by decide +kernel
theorem dX7_bits_16 : decode cX7_bits 16 = .ok (.ldc2_w 76, 3) := by decide +kernel
theorem dX7_bits_19 : decode cX7_bits 19 = .ok (.lreturn, 1) := by decide +kernel
theorem dX7_inputs_0 : decode cX7_inputs 0 = .ok (.iload_n 1, 1) := by decide +kernel
theorem dX7_inputs_1 : decode cX7_inputs 1 = .ok (.invokestatic 58, 3) := by decide +kernel
theorem dX7_inputs_4 : decode cX7_inputs 4 = .ok (.ifCond .eq 12, 3) := by decide +kernel
theorem dX7_inputs_7 : decode cX7_inputs 7 = .ok (.aload_n 0, 1) := by decide +kernel
theorem dX7_inputs_8 : decode cX7_inputs 8 = .ok (.getfield 9, 3) := by decide +kernel
theorem dX7_inputs_11 : decode cX7_inputs 11 = .ok (.iload_n 1, 1) := by decide +kernel
theorem dX7_inputs_12 : decode cX7_inputs 12 = .ok (.iaload, 1) := by decide +kernel
theorem dX7_inputs_13 : decode cX7_inputs 13 = .ok (.goto 4, 3) := by decide +kernel
theorem dX7_inputs_16 : decode cX7_inputs 16 = .ok (.iconst (-1), 1) := by decide +kernel
theorem dX7_inputs_17 : decode cX7_inputs 17 = .ok (.ireturn, 1) := by decide +kernel
theorem dX7_most_0 : decode cX7_most 0 = .ok (.iload_n 1, 1) := by decide +kernel
theorem dX7_most_1 : decode cX7_most 1 = .ok (.invokestatic 58, 3) := by decide +kernel
theorem dX7_most_4 : decode cX7_most 4 = .ok (.ifCond .eq 25, 3) := by decide +kernel
theorem dX7_most_7 : decode cX7_most 7 = .ok (.iload_n 2, 1) := by decide +kernel
theorem dX7_most_8 : decode cX7_most 8 = .ok (.invokestatic 58, 3) := by decide +kernel
theorem dX7_most_11 : decode cX7_most 11 = .ok (.ifCond .eq 18, 3) := by decide +kernel
theorem dX7_most_14 : decode cX7_most 14 = .ok (.iload_n 3, 1) := by decide +kernel
theorem dX7_most_15 : decode cX7_most 15 = .ok (.invokestatic 58, 3) := by decide +kernel
theorem dX7_most_18 : decode cX7_most 18 = .ok (.ifCond .eq 11, 3) := by decide +kernel
theorem dX7_most_21 : decode cX7_most 21 = .ok (.iload 4, 2) := by decide +kernel
theorem dX7_most_23 : decode cX7_most 23 = .ok (.invokestatic 58, 3) := by decide +kernel
theorem dX7_most_26 : decode cX7_most 26 = .ok (.ifCond .ne 5, 3) := by decide +kernel
theorem dX7_most_29 : decode cX7_most 29 = .ok (.iconst (-1), 1) := by decide +kernel
theorem dX7_most_30 : decode cX7_most 30 = .ok (.ireturn, 1) := by decide +kernel
theorem dX7_most_31 : decode cX7_most 31 = .ok (.aload_n 0, 1) := by decide +kernel
theorem dX7_most_32 : decode cX7_most 32 = .ok (.getfield 9, 3) := by decide +kernel
theorem dX7_most_35 : decode cX7_most 35 = .ok (.iload_n 2, 1) := by decide +kernel
theorem dX7_most_36 : decode cX7_most 36 = .ok (.iaload, 1) := by decide +kernel
theorem dX7_most_37 : decode cX7_most 37 = .ok (.aload_n 0, 1) := by decide +kernel
theorem dX7_most_38 : decode cX7_most 38 = .ok (.getfield 9, 3) := by decide +kernel
theorem dX7_most_41 : decode cX7_most 41 = .ok (.iload_n 3, 1) := by decide +kernel
theorem dX7_most_42 : decode cX7_most 42 = .ok (.iaload, 1) := by decide +kernel
theorem dX7_most_43 : decode cX7_most 43 = .ok (.if_icmp .ne 19, 3) := by decide +kernel
theorem dX7_most_46 : decode cX7_most 46 = .ok (.aload_n 0, 1) := by decide +kernel
theorem dX7_most_47 : decode cX7_most 47 = .ok (.getfield 9, 3) := by decide +kernel
theorem dX7_most_50 : decode cX7_most 50 = .ok (.iload_n 2, 1) := by decide +kernel
theorem dX7_most_51 : decode cX7_most 51 = .ok (.iaload, 1) := by decide +kernel
theorem dX7_most_52 : decode cX7_most 52 = .ok (.aload_n 0, 1) := by decide +kernel
theorem dX7_most_53 : decode cX7_most 53 = .ok (.getfield 9, 3) := by decide +kernel
theorem dX7_most_56 : decode cX7_most 56 = .ok (.iload 4, 2) := by decide +kernel
theorem dX7_most_58 : decode cX7_most 58 = .ok (.iaload, 1) := by decide +kernel
theorem dX7_most_59 : decode cX7_most 59 = .ok (.if_icmp .eq 6, 3) := by decide +kernel
theorem dX7_most_62 : decode cX7_most 62 = .ok (.bipush (-3), 2) := by decide +kernel
theorem dX7_most_64 : decode cX7_most 64 = .ok (.ireturn, 1) := by decide +kernel
theorem dX7_most_65 : decode cX7_most 65 = .ok (.aload_n 0, 1) := by decide +kernel
theorem dX7_most_66 : decode cX7_most 66 = .ok (.getfield 13, 3) := by decide +kernel
theorem dX7_most_69 : decode cX7_most 69 = .ok (.iload_n 2, 1) := by decide +kernel
theorem dX7_most_70 : decode cX7_most 70 = .ok (.laload, 1) := by decide +kernel
theorem dX7_most_71 : decode cX7_most 71 = .ok (.aload_n 0, 1) := by decide +kernel
theorem dX7_most_72 : decode cX7_most 72 = .ok (.getfield 13, 3) := by decide +kernel
theorem dX7_most_75 : decode cX7_most 75 = .ok (.iload_n 3, 1) := by decide +kernel
theorem dX7_most_76 : decode cX7_most 76 = .ok (.laload, 1) := by decide +kernel
theorem dX7_most_77 : decode cX7_most 77 = .ok (.land, 1) := by decide +kernel
theorem dX7_most_78 : decode cX7_most 78 = .ok (.lstore 5, 2) := by decide +kernel
theorem dX7_most_80 : decode cX7_most 80 = .ok (.aload_n 0, 1) := by decide +kernel
theorem dX7_most_81 : decode cX7_most 81 = .ok (.getfield 13, 3) := by decide +kernel
theorem dX7_most_84 : decode cX7_most 84 = .ok (.iload_n 2, 1) := by decide +kernel
theorem dX7_most_85 : decode cX7_most 85 = .ok (.laload, 1) := by decide +kernel
theorem dX7_most_86 : decode cX7_most 86 = .ok (.aload_n 0, 1) := by decide +kernel
theorem dX7_most_87 : decode cX7_most 87 = .ok (.getfield 13, 3) := by decide +kernel
theorem dX7_most_90 : decode cX7_most 90 = .ok (.iload_n 3, 1) := by decide +kernel
theorem dX7_most_91 : decode cX7_most 91 = .ok (.laload, 1) := by decide +kernel
theorem dX7_most_92 : decode cX7_most 92 = .ok (.lor, 1) := by decide +kernel
theorem dX7_most_93 : decode cX7_most 93 = .ok (.lstore 7, 2) := by decide +kernel
theorem dX7_most_95 : decode cX7_most 95 = .ok (.aload_n 0, 1) := by decide +kernel
theorem dX7_most_96 : decode cX7_most 96 = .ok (.iload_n 1, 1) := by decide +kernel
theorem dX7_most_97 : decode cX7_most 97 = .ok (.aload_n 0, 1) := by decide +kernel
theorem dX7_most_98 : decode cX7_most 98 = .ok (.getfield 9, 3) := by decide +kernel
theorem dX7_most_101 : decode cX7_most 101 = .ok (.iload_n 2, 1) := by decide +kernel
theorem dX7_most_102 : decode cX7_most 102 = .ok (.iaload, 1) := by decide +kernel
theorem dX7_most_103 : decode cX7_most 103 = .ok (.lload 5, 2) := by decide +kernel
theorem dX7_most_105 : decode cX7_most 105 = .ok (.lload 7, 2) := by decide +kernel
theorem dX7_most_107 : decode cX7_most 107 = .ok (.aload_n 0, 1) := by decide +kernel
theorem dX7_most_108 : decode cX7_most 108 = .ok (.getfield 13, 3) := by decide +kernel
theorem dX7_most_111 : decode cX7_most 111 = .ok (.iload 4, 2) := by decide +kernel
theorem dX7_most_113 : decode cX7_most 113 = .ok (.laload, 1) := by decide +kernel
theorem dX7_most_114 : decode cX7_most 114 = .ok (.land, 1) := by decide +kernel
theorem dX7_most_115 : decode cX7_most 115 = .ok (.lor, 1) := by decide +kernel
theorem dX7_most_116 : decode cX7_most 116 = .ok (.invokevirtual 72, 3) := by decide +kernel
theorem dX7_most_119 : decode cX7_most 119 = .ok (.ireturn, 1) := by decide +kernel
theorem dX7_turn_0 : decode cX7_turn 0 = .ok (.iload_n 1, 1) := by decide +kernel
theorem dX7_turn_1 : decode cX7_turn 1 = .ok (.invokestatic 58, 3) := by decide +kernel
theorem dX7_turn_4 : decode cX7_turn 4 = .ok (.ifCond .eq 25, 3) := by decide +kernel
theorem dX7_turn_7 : decode cX7_turn 7 = .ok (.iload_n 2, 1) := by decide +kernel
theorem dX7_turn_8 : decode cX7_turn 8 = .ok (.invokestatic 58, 3) := by decide +kernel
theorem dX7_turn_11 : decode cX7_turn 11 = .ok (.ifCond .eq 18, 3) := by decide +kernel
theorem dX7_turn_14 : decode cX7_turn 14 = .ok (.iload_n 3, 1) := by decide +kernel
theorem dX7_turn_15 : decode cX7_turn 15 = .ok (.ldc 89, 2) := by decide +kernel
theorem dX7_turn_17 : decode cX7_turn 17 = .ok (.if_icmp .eq 14, 3) := by decide +kernel
theorem dX7_turn_20 : decode cX7_turn 20 = .ok (.aload_n 0, 1) := by decide +kernel
theorem dX7_turn_21 : decode cX7_turn 21 = .ok (.iload_n 2, 1) := by decide +kernel
theorem dX7_turn_22 : decode cX7_turn 22 = .ok (.iload_n 3, 1) := by decide +kernel
theorem dX7_turn_23 : decode cX7_turn 23 = .ok (.invokevirtual 90, 3) := by decide +kernel
theorem dX7_turn_26 : decode cX7_turn 26 = .ok (.ifCond .ne 5, 3) := by decide +kernel
theorem dX7_turn_29 : decode cX7_turn 29 = .ok (.iconst (-1), 1) := by decide +kernel
theorem dX7_turn_30 : decode cX7_turn 30 = .ok (.ireturn, 1) := by decide +kernel
theorem dX7_turn_31 : decode cX7_turn 31 = .ok (.aload_n 0, 1) := by decide +kernel
theorem dX7_turn_32 : decode cX7_turn 32 = .ok (.getfield 9, 3) := by decide +kernel
theorem dX7_turn_35 : decode cX7_turn 35 = .ok (.iload_n 2, 1) := by decide +kernel
theorem dX7_turn_36 : decode cX7_turn 36 = .ok (.iaload, 1) := by decide +kernel
theorem dX7_turn_37 : decode cX7_turn 37 = .ok (.istore 4, 2) := by decide +kernel
theorem dX7_turn_39 : decode cX7_turn 39 = .ok (.iload_n 3, 1) := by decide +kernel
theorem dX7_turn_40 : decode cX7_turn 40 = .ok (.ldc 89, 2) := by decide +kernel
theorem dX7_turn_42 : decode cX7_turn 42 = .ok (.if_icmp .ne 18, 3) := by decide +kernel
theorem dX7_turn_45 : decode cX7_turn 45 = .ok (.aload_n 0, 1) := by decide +kernel
theorem dX7_turn_46 : decode cX7_turn 46 = .ok (.getfield 13, 3) := by decide +kernel
theorem dX7_turn_49 : decode cX7_turn 49 = .ok (.iload_n 2, 1) := by decide +kernel
theorem dX7_turn_50 : decode cX7_turn 50 = .ok (.laload, 1) := by decide +kernel
theorem dX7_turn_51 : decode cX7_turn 51 = .ok (.iload 4, 2) := by decide +kernel
theorem dX7_turn_53 : decode cX7_turn 53 = .ok (.invokestatic 66, 3) := by decide +kernel
theorem dX7_turn_56 : decode cX7_turn 56 = .ok (.lxor, 1) := by decide +kernel
theorem dX7_turn_57 : decode cX7_turn 57 = .ok (.goto 13, 3) := by decide +kernel
theorem dX7_turn_60 : decode cX7_turn 60 = .ok (.aload_n 0, 1) := by decide +kernel
theorem dX7_turn_61 : decode cX7_turn 61 = .ok (.getfield 13, 3) := by decide +kernel
theorem dX7_turn_64 : decode cX7_turn 64 = .ok (.iload_n 2, 1) := by decide +kernel
theorem dX7_turn_65 : decode cX7_turn 65 = .ok (.laload, 1) := by decide +kernel
theorem dX7_turn_66 : decode cX7_turn 66 = .ok (.iload_n 3, 1) := by decide +kernel
theorem dX7_turn_67 : decode cX7_turn 67 = .ok (.invokestatic 94, 3) := by decide +kernel
theorem dX7_turn_70 : decode cX7_turn 70 = .ok (.lstore 5, 2) := by decide +kernel
theorem dX7_turn_72 : decode cX7_turn 72 = .ok (.aload_n 0, 1) := by decide +kernel
theorem dX7_turn_73 : decode cX7_turn 73 = .ok (.iload_n 1, 1) := by decide +kernel
theorem dX7_turn_74 : decode cX7_turn 74 = .ok (.iload 4, 2) := by decide +kernel
theorem dX7_turn_76 : decode cX7_turn 76 = .ok (.lload 5, 2) := by decide +kernel
theorem dX7_turn_78 : decode cX7_turn 78 = .ok (.invokevirtual 72, 3) := by decide +kernel
theorem dX7_turn_81 : decode cX7_turn 81 = .ok (.ireturn, 1) := by decide +kernel
theorem dX7_hold_0 : decode cX7_hold 0 = .ok (.iload_n 1, 1) := by decide +kernel
theorem dX7_hold_1 : decode cX7_hold 1 = .ok (.invokestatic 58, 3) := by decide +kernel
theorem dX7_hold_4 : decode cX7_hold 4 = .ok (.ifCond .eq 12, 3) := by decide +kernel
theorem dX7_hold_7 : decode cX7_hold 7 = .ok (.aload_n 0, 1) := by decide +kernel
theorem dX7_hold_8 : decode cX7_hold 8 = .ok (.iload_n 2, 1) := by decide +kernel
theorem dX7_hold_9 : decode cX7_hold 9 = .ok (.iload_n 3, 1) := by decide +kernel
theorem dX7_hold_10 : decode cX7_hold 10 = .ok (.invokevirtual 90, 3) := by decide +kernel
theorem dX7_hold_13 : decode cX7_hold 13 = .ok (.ifCond .ne 5, 3) := by decide +kernel
theorem dX7_hold_16 : decode cX7_hold 16 = .ok (.iconst (-1), 1) := by decide +kernel
theorem dX7_hold_17 : decode cX7_hold 17 = .ok (.ireturn, 1) := by decide +kernel
theorem dX7_hold_18 : decode cX7_hold 18 = .ok (.aload_n 0, 1) := by decide +kernel
theorem dX7_hold_19 : decode cX7_hold 19 = .ok (.getfield 9, 3) := by decide +kernel
theorem dX7_hold_22 : decode cX7_hold 22 = .ok (.iload_n 2, 1) := by decide +kernel
theorem dX7_hold_23 : decode cX7_hold 23 = .ok (.iaload, 1) := by decide +kernel
theorem dX7_hold_24 : decode cX7_hold 24 = .ok (.iconst 1, 1) := by decide +kernel
theorem dX7_hold_25 : decode cX7_hold 25 = .ok (.if_icmp .ne 6, 3) := by decide +kernel
theorem dX7_hold_28 : decode cX7_hold 28 = .ok (.bipush (-3), 2) := by decide +kernel
theorem dX7_hold_30 : decode cX7_hold 30 = .ok (.ireturn, 1) := by decide +kernel
theorem dX7_hold_31 : decode cX7_hold 31 = .ok (.aload_n 0, 1) := by decide +kernel
theorem dX7_hold_32 : decode cX7_hold 32 = .ok (.getfield 9, 3) := by decide +kernel
theorem dX7_hold_35 : decode cX7_hold 35 = .ok (.iload_n 2, 1) := by decide +kernel
theorem dX7_hold_36 : decode cX7_hold 36 = .ok (.iaload, 1) := by decide +kernel
theorem dX7_hold_37 : decode cX7_hold 37 = .ok (.iconst 1, 1) := by decide +kernel
theorem dX7_hold_38 : decode cX7_hold 38 = .ok (.isub, 1) := by decide +kernel
theorem dX7_hold_39 : decode cX7_hold 39 = .ok (.istore 5, 2) := by decide +kernel
theorem dX7_hold_41 : decode cX7_hold 41 = .ok (.aload_n 0, 1) := by decide +kernel
theorem dX7_hold_42 : decode cX7_hold 42 = .ok (.iload_n 1, 1) := by decide +kernel
theorem dX7_hold_43 : decode cX7_hold 43 = .ok (.iload 5, 2) := by decide +kernel
theorem dX7_hold_45 : decode cX7_hold 45 = .ok (.iload 5, 2) := by decide +kernel
theorem dX7_hold_47 : decode cX7_hold 47 = .ok (.aload_n 0, 1) := by decide +kernel
theorem dX7_hold_48 : decode cX7_hold 48 = .ok (.getfield 13, 3) := by decide +kernel
theorem dX7_hold_51 : decode cX7_hold 51 = .ok (.iload_n 2, 1) := by decide +kernel
theorem dX7_hold_52 : decode cX7_hold 52 = .ok (.laload, 1) := by decide +kernel
theorem dX7_hold_53 : decode cX7_hold 53 = .ok (.iload_n 3, 1) := by decide +kernel
theorem dX7_hold_54 : decode cX7_hold 54 = .ok (.iload 4, 2) := by decide +kernel
theorem dX7_hold_56 : decode cX7_hold 56 = .ok (.invokestatic 98, 3) := by decide +kernel
theorem dX7_hold_59 : decode cX7_hold 59 = .ok (.invokevirtual 72, 3) := by decide +kernel
theorem dX7_hold_62 : decode cX7_hold 62 = .ok (.pop, 1) := by decide +kernel
theorem dX7_hold_63 : decode cX7_hold 63 = .ok (.iload 5, 2) := by decide +kernel
theorem dX7_hold_65 : decode cX7_hold 65 = .ok (.ireturn, 1) := by decide +kernel
theorem dX7_matters_0 : decode cX7_matters 0 = .ok (.aload_n 0, 1) := by decide +kernel
theorem dX7_matters_1 : decode cX7_matters 1 = .ok (.iload_n 1, 1) := by decide +kernel
theorem dX7_matters_2 : decode cX7_matters 2 = .ok (.iload_n 2, 1) := by decide +kernel
theorem dX7_matters_3 : decode cX7_matters 3 = .ok (.invokevirtual 90, 3) := by decide +kernel
theorem dX7_matters_6 : decode cX7_matters 6 = .ok (.ifCond .ne 5, 3) := by decide +kernel
theorem dX7_matters_9 : decode cX7_matters 9 = .ok (.iconst (-1), 1) := by decide +kernel
theorem dX7_matters_10 : decode cX7_matters 10 = .ok (.ireturn, 1) := by decide +kernel
theorem dX7_matters_11 : decode cX7_matters 11 = .ok (.aload_n 0, 1) := by decide +kernel
theorem dX7_matters_12 : decode cX7_matters 12 = .ok (.getfield 13, 3) := by decide +kernel
theorem dX7_matters_15 : decode cX7_matters 15 = .ok (.iload_n 1, 1) := by decide +kernel
theorem dX7_matters_16 : decode cX7_matters 16 = .ok (.laload, 1) := by decide +kernel
theorem dX7_matters_17 : decode cX7_matters 17 = .ok (.iload_n 2, 1) := by decide +kernel
theorem dX7_matters_18 : decode cX7_matters 18 = .ok (.invokestatic 94, 3) := by decide +kernel
theorem dX7_matters_21 : decode cX7_matters 21 = .ok (.aload_n 0, 1) := by decide +kernel
theorem dX7_matters_22 : decode cX7_matters 22 = .ok (.getfield 13, 3) := by decide +kernel
theorem dX7_matters_25 : decode cX7_matters 25 = .ok (.iload_n 1, 1) := by decide +kernel
theorem dX7_matters_26 : decode cX7_matters 26 = .ok (.laload, 1) := by decide +kernel
theorem dX7_matters_27 : decode cX7_matters 27 = .ok (.lcmp, 1) := by decide +kernel
theorem dX7_matters_28 : decode cX7_matters 28 = .ok (.ifCond .eq 7, 3) := by decide +kernel
theorem dX7_matters_31 : decode cX7_matters 31 = .ok (.iconst 1, 1) := by decide +kernel
theorem dX7_matters_32 : decode cX7_matters 32 = .ok (.goto 4, 3) := by decide +kernel
theorem dX7_matters_35 : decode cX7_matters 35 = .ok (.iconst 0, 1) := by decide +kernel
theorem dX7_matters_36 : decode cX7_matters 36 = .ok (.ireturn, 1) := by decide +kernel
theorem dX7_ones_0 : decode cX7_ones 0 = .ok (.iload_n 1, 1) := by decide +kernel
theorem dX7_ones_1 : decode cX7_ones 1 = .ok (.invokestatic 58, 3) := by decide +kernel
theorem dX7_ones_4 : decode cX7_ones 4 = .ok (.ifCond .eq 18, 3) := by decide +kernel
theorem dX7_ones_7 : decode cX7_ones 7 = .ok (.iload_n 2, 1) := by decide +kernel
theorem dX7_ones_8 : decode cX7_ones 8 = .ok (.ldc 89, 2) := by decide +kernel
theorem dX7_ones_10 : decode cX7_ones 10 = .ok (.if_icmp .eq 14, 3) := by decide +kernel
theorem dX7_ones_13 : decode cX7_ones 13 = .ok (.aload_n 0, 1) := by decide +kernel
theorem dX7_ones_14 : decode cX7_ones 14 = .ok (.iload_n 1, 1) := by decide +kernel
theorem dX7_ones_15 : decode cX7_ones 15 = .ok (.iload_n 2, 1) := by decide +kernel
theorem dX7_ones_16 : decode cX7_ones 16 = .ok (.invokevirtual 90, 3) := by decide +kernel
theorem dX7_ones_19 : decode cX7_ones 19 = .ok (.ifCond .ne 5, 3) := by decide +kernel
theorem dX7_ones_22 : decode cX7_ones 22 = .ok (.iconst (-1), 1) := by decide +kernel
theorem dX7_ones_23 : decode cX7_ones 23 = .ok (.ireturn, 1) := by decide +kernel
theorem dX7_ones_24 : decode cX7_ones 24 = .ok (.iload_n 2, 1) := by decide +kernel
theorem dX7_ones_25 : decode cX7_ones 25 = .ok (.ldc 89, 2) := by decide +kernel
theorem dX7_ones_27 : decode cX7_ones 27 = .ok (.if_icmp .ne 15, 3) := by decide +kernel
theorem dX7_ones_30 : decode cX7_ones 30 = .ok (.aload_n 0, 1) := by decide +kernel
theorem dX7_ones_31 : decode cX7_ones 31 = .ok (.getfield 13, 3) := by decide +kernel
theorem dX7_ones_34 : decode cX7_ones 34 = .ok (.iload_n 1, 1) := by decide +kernel
theorem dX7_ones_35 : decode cX7_ones 35 = .ok (.laload, 1) := by decide +kernel
theorem dX7_ones_36 : decode cX7_ones 36 = .ok (.invokestatic 102, 3) := by decide +kernel
theorem dX7_ones_39 : decode cX7_ones 39 = .ok (.goto 13, 3) := by decide +kernel
theorem dX7_ones_42 : decode cX7_ones 42 = .ok (.aload_n 0, 1) := by decide +kernel
theorem dX7_ones_43 : decode cX7_ones 43 = .ok (.getfield 13, 3) := by decide +kernel
theorem dX7_ones_46 : decode cX7_ones 46 = .ok (.iload_n 1, 1) := by decide +kernel
theorem dX7_ones_47 : decode cX7_ones 47 = .ok (.laload, 1) := by decide +kernel
theorem dX7_ones_48 : decode cX7_ones 48 = .ok (.iload_n 2, 1) := by decide +kernel
theorem dX7_ones_49 : decode cX7_ones 49 = .ok (.invokestatic 108, 3) := by decide +kernel
theorem dX7_ones_52 : decode cX7_ones 52 = .ok (.ireturn, 1) := by decide +kernel
theorem dX7_gate_0 : decode cX7_gate 0 = .ok (.iload_n 1, 1) := by decide +kernel
theorem dX7_gate_1 : decode cX7_gate 1 = .ok (.invokestatic 58, 3) := by decide +kernel
theorem dX7_gate_4 : decode cX7_gate 4 = .ok (.ifCond .ne 5, 3) := by decide +kernel
theorem dX7_gate_7 : decode cX7_gate 7 = .ok (.iconst (-1), 1) := by decide +kernel
theorem dX7_gate_8 : decode cX7_gate 8 = .ok (.ireturn, 1) := by decide +kernel
theorem dX7_gate_9 : decode cX7_gate 9 = .ok (.aload_n 0, 1) := by decide +kernel
theorem dX7_gate_10 : decode cX7_gate 10 = .ok (.iload_n 1, 1) := by decide +kernel
theorem dX7_gate_11 : decode cX7_gate 11 = .ok (.invokevirtual 112, 3) := by decide +kernel
theorem dX7_gate_14 : decode cX7_gate 14 = .ok (.ifCond .eq 7, 3) := by decide +kernel
theorem dX7_gate_17 : decode cX7_gate 17 = .ok (.iconst 1, 1) := by decide +kernel
theorem dX7_gate_18 : decode cX7_gate 18 = .ok (.goto 4, 3) := by decide +kernel
theorem dX7_gate_21 : decode cX7_gate 21 = .ok (.iconst 0, 1) := by decide +kernel
theorem dX7_gate_22 : decode cX7_gate 22 = .ok (.ireturn, 1) := by decide +kernel
theorem dX7_weight_0 : decode cX7_weight 0 = .ok (.aload_n 0, 1) := by decide +kernel
theorem dX7_weight_1 : decode cX7_weight 1 = .ok (.iload_n 1, 1) := by decide +kernel
theorem dX7_weight_2 : decode cX7_weight 2 = .ok (.iload_n 2, 1) := by decide +kernel
theorem dX7_weight_3 : decode cX7_weight 3 = .ok (.invokevirtual 90, 3) := by decide +kernel
theorem dX7_weight_6 : decode cX7_weight 6 = .ok (.ifCond .ne 5, 3) := by decide +kernel
theorem dX7_weight_9 : decode cX7_weight 9 = .ok (.iconst (-1), 1) := by decide +kernel
theorem dX7_weight_10 : decode cX7_weight 10 = .ok (.ireturn, 1) := by decide +kernel
theorem dX7_weight_11 : decode cX7_weight 11 = .ok (.aload_n 0, 1) := by decide +kernel
theorem dX7_weight_12 : decode cX7_weight 12 = .ok (.iload_n 1, 1) := by decide +kernel
theorem dX7_weight_13 : decode cX7_weight 13 = .ok (.invokevirtual 115, 3) := by decide +kernel
theorem dX7_weight_16 : decode cX7_weight 16 = .ok (.ifCond .eq 15, 3) := by decide +kernel
theorem dX7_weight_19 : decode cX7_weight 19 = .ok (.aload_n 0, 1) := by decide +kernel
theorem dX7_weight_20 : decode cX7_weight 20 = .ok (.getfield 27, 3) := by decide +kernel
theorem dX7_weight_23 : decode cX7_weight 23 = .ok (.getfield 118, 3) := by decide +kernel
theorem dX7_weight_26 : decode cX7_weight 26 = .ok (.iload_n 2, 1) := by decide +kernel
theorem dX7_weight_27 : decode cX7_weight 27 = .ok (.iaload, 1) := by decide +kernel
theorem dX7_weight_28 : decode cX7_weight 28 = .ok (.goto 5, 3) := by decide +kernel
theorem dX7_weight_31 : decode cX7_weight 31 = .ok (.ldc 89, 2) := by decide +kernel
theorem dX7_weight_33 : decode cX7_weight 33 = .ok (.ireturn, 1) := by decide +kernel
theorem dX7_bound_0 : decode cX7_bound 0 = .ok (.iload_n 1, 1) := by decide +kernel
theorem dX7_bound_1 : decode cX7_bound 1 = .ok (.invokestatic 58, 3) := by decide +kernel
theorem dX7_bound_4 : decode cX7_bound 4 = .ok (.ifCond .ne 5, 3) := by decide +kernel
theorem dX7_bound_7 : decode cX7_bound 7 = .ok (.iconst (-1), 1) := by decide +kernel
theorem dX7_bound_8 : decode cX7_bound 8 = .ok (.ireturn, 1) := by decide +kernel
theorem dX7_bound_9 : decode cX7_bound 9 = .ok (.aload_n 0, 1) := by decide +kernel
theorem dX7_bound_10 : decode cX7_bound 10 = .ok (.iload_n 1, 1) := by decide +kernel
theorem dX7_bound_11 : decode cX7_bound 11 = .ok (.invokevirtual 115, 3) := by decide +kernel
theorem dX7_bound_14 : decode cX7_bound 14 = .ok (.ifCond .eq 13, 3) := by decide +kernel
theorem dX7_bound_17 : decode cX7_bound 17 = .ok (.aload_n 0, 1) := by decide +kernel
theorem dX7_bound_18 : decode cX7_bound 18 = .ok (.getfield 27, 3) := by decide +kernel
theorem dX7_bound_21 : decode cX7_bound 21 = .ok (.getfield 121, 3) := by decide +kernel
theorem dX7_bound_24 : decode cX7_bound 24 = .ok (.goto 5, 3) := by decide +kernel
theorem dX7_bound_27 : decode cX7_bound 27 = .ok (.ldc 89, 2) := by decide +kernel
theorem dX7_bound_29 : decode cX7_bound 29 = .ok (.ireturn, 1) := by decide +kernel
theorem dX7_size_0 : decode cX7_size 0 = .ok (.iload_n 1, 1) := by decide +kernel
theorem dX7_size_1 : decode cX7_size 1 = .ok (.invokestatic 58, 3) := by decide +kernel
theorem dX7_size_4 : decode cX7_size 4 = .ok (.ifCond .ne 5, 3) := by decide +kernel
theorem dX7_size_7 : decode cX7_size 7 = .ok (.iconst (-1), 1) := by decide +kernel
theorem dX7_size_8 : decode cX7_size 8 = .ok (.ireturn, 1) := by decide +kernel
theorem dX7_size_9 : decode cX7_size 9 = .ok (.aload_n 0, 1) := by decide +kernel
theorem dX7_size_10 : decode cX7_size 10 = .ok (.iload_n 1, 1) := by decide +kernel
theorem dX7_size_11 : decode cX7_size 11 = .ok (.invokevirtual 115, 3) := by decide +kernel
theorem dX7_size_14 : decode cX7_size 14 = .ok (.ifCond .eq 13, 3) := by decide +kernel
theorem dX7_size_17 : decode cX7_size 17 = .ok (.aload_n 0, 1) := by decide +kernel
theorem dX7_size_18 : decode cX7_size 18 = .ok (.getfield 27, 3) := by decide +kernel
theorem dX7_size_21 : decode cX7_size 21 = .ok (.getfield 125, 3) := by decide +kernel
theorem dX7_size_24 : decode cX7_size 24 = .ok (.goto 5, 3) := by decide +kernel
theorem dX7_size_27 : decode cX7_size 27 = .ok (.ldc 89, 2) := by decide +kernel
theorem dX7_size_29 : decode cX7_size 29 = .ok (.ireturn, 1) := by decide +kernel
theorem dX7_witness_0 : decode cX7_witness 0 = .ok (.iload_n 1, 1) := by decide +kernel
theorem dX7_witness_1 : decode cX7_witness 1 = .ok (.invokestatic 58, 3) := by decide +kernel
theorem dX7_witness_4 : decode cX7_witness 4 = .ok (.ifCond .ne 5, 3) := by decide +kernel
theorem dX7_witness_7 : decode cX7_witness 7 = .ok (.iconst (-1), 1) := by decide +kernel
theorem dX7_witness_8 : decode cX7_witness 8 = .ok (.ireturn, 1) := by decide +kernel
theorem dX7_witness_9 : decode cX7_witness 9 = .ok (.iload_n 2, 1) := by decide +kernel
theorem dX7_witness_10 : decode cX7_witness 10 = .ok (.iconst 0, 1) := by decide +kernel
theorem dX7_witness_11 : decode cX7_witness 11 = .ok (.iconst 3, 1) := by decide +kernel
theorem dX7_witness_12 : decode cX7_witness 12 = .ok (.invokestatic 62, 3) := by decide +kernel
theorem dX7_witness_15 : decode cX7_witness 15 = .ok (.ifCond .ne 6, 3) := by decide +kernel
theorem dX7_witness_18 : decode cX7_witness 18 = .ok (.bipush (-2), 2) := by decide +kernel
theorem dX7_witness_20 : decode cX7_witness 20 = .ok (.ireturn, 1) := by decide +kernel
theorem dX7_witness_21 : decode cX7_witness 21 = .ok (.aload_n 0, 1) := by decide +kernel
theorem dX7_witness_22 : decode cX7_witness 22 = .ok (.iload_n 1, 1) := by decide +kernel
theorem dX7_witness_23 : decode cX7_witness 23 = .ok (.invokevirtual 112, 3) := by decide +kernel
theorem dX7_witness_26 : decode cX7_witness 26 = .ok (.ifCond .eq 8, 3) := by decide +kernel
theorem dX7_witness_29 : decode cX7_witness 29 = .ok (.ldc 89, 2) := by decide +kernel
theorem dX7_witness_31 : decode cX7_witness 31 = .ok (.goto 12, 3) := by decide +kernel
theorem dX7_witness_34 : decode cX7_witness 34 = .ok (.aload_n 0, 1) := by decide +kernel
theorem dX7_witness_35 : decode cX7_witness 35 = .ok (.getfield 20, 3) := by decide +kernel
theorem dX7_witness_38 : decode cX7_witness 38 = .ok (.getfield 128, 3) := by decide +kernel
theorem dX7_witness_41 : decode cX7_witness 41 = .ok (.iload_n 2, 1) := by decide +kernel
theorem dX7_witness_42 : decode cX7_witness 42 = .ok (.iaload, 1) := by decide +kernel
theorem dX7_witness_43 : decode cX7_witness 43 = .ok (.ireturn, 1) := by decide +kernel
theorem dX7_slack_0 : decode cX7_slack 0 = .ok (.iload_n 1, 1) := by decide +kernel
theorem dX7_slack_1 : decode cX7_slack 1 = .ok (.invokestatic 58, 3) := by decide +kernel
theorem dX7_slack_4 : decode cX7_slack 4 = .ok (.ifCond .ne 5, 3) := by decide +kernel
theorem dX7_slack_7 : decode cX7_slack 7 = .ok (.iconst (-1), 1) := by decide +kernel
theorem dX7_slack_8 : decode cX7_slack 8 = .ok (.ireturn, 1) := by decide +kernel
theorem dX7_slack_9 : decode cX7_slack 9 = .ok (.aload_n 0, 1) := by decide +kernel
theorem dX7_slack_10 : decode cX7_slack 10 = .ok (.iload_n 1, 1) := by decide +kernel
theorem dX7_slack_11 : decode cX7_slack 11 = .ok (.invokevirtual 115, 3) := by decide +kernel
theorem dX7_slack_14 : decode cX7_slack 14 = .ok (.ifCond .eq 13, 3) := by decide +kernel
theorem dX7_slack_17 : decode cX7_slack 17 = .ok (.aload_n 0, 1) := by decide +kernel
theorem dX7_slack_18 : decode cX7_slack 18 = .ok (.getfield 27, 3) := by decide +kernel
theorem dX7_slack_21 : decode cX7_slack 21 = .ok (.invokevirtual 131, 3) := by decide +kernel
theorem dX7_slack_24 : decode cX7_slack 24 = .ok (.goto 5, 3) := by decide +kernel
theorem dX7_slack_27 : decode cX7_slack 27 = .ok (.ldc 89, 2) := by decide +kernel
theorem dX7_slack_29 : decode cX7_slack 29 = .ok (.ireturn, 1) := by decide +kernel
theorem dX7_chief_0 : decode cX7_chief 0 = .ok (.iload_n 1, 1) := by decide +kernel
theorem dX7_chief_1 : decode cX7_chief 1 = .ok (.invokestatic 58, 3) := by decide +kernel
theorem dX7_chief_4 : decode cX7_chief 4 = .ok (.ifCond .ne 7, 3) := by decide +kernel
theorem dX7_chief_7 : decode cX7_chief 7 = .ok (.ldc2_w 76, 3) := by decide +kernel
theorem dX7_chief_10 : decode cX7_chief 10 = .ok (.lreturn, 1) := by decide +kernel
theorem dX7_chief_11 : decode cX7_chief 11 = .ok (.aload_n 0, 1) := by decide +kernel
theorem dX7_chief_12 : decode cX7_chief 12 = .ok (.getfield 9, 3) := by decide +kernel
theorem dX7_chief_15 : decode cX7_chief 15 = .ok (.iload_n 1, 1) := by decide +kernel
theorem dX7_chief_16 : decode cX7_chief 16 = .ok (.iaload, 1) := by decide +kernel
theorem dX7_chief_17 : decode cX7_chief 17 = .ok (.iconst 4, 1) := by decide +kernel
theorem dX7_chief_18 : decode cX7_chief 18 = .ok (.if_icmp .le 7, 3) := by decide +kernel
theorem dX7_chief_21 : decode cX7_chief 21 = .ok (.ldc2_w 135, 3) := by decide +kernel
theorem dX7_chief_24 : decode cX7_chief 24 = .ok (.lreturn, 1) := by decide +kernel
theorem dX7_chief_25 : decode cX7_chief 25 = .ok (.aload_n 0, 1) := by decide +kernel
theorem dX7_chief_26 : decode cX7_chief 26 = .ok (.getfield 34, 3) := by decide +kernel
theorem dX7_chief_29 : decode cX7_chief 29 = .ok (.aload_n 0, 1) := by decide +kernel
theorem dX7_chief_30 : decode cX7_chief 30 = .ok (.getfield 9, 3) := by decide +kernel
theorem dX7_chief_33 : decode cX7_chief 33 = .ok (.iload_n 1, 1) := by decide +kernel
theorem dX7_chief_34 : decode cX7_chief 34 = .ok (.iaload, 1) := by decide +kernel
theorem dX7_chief_35 : decode cX7_chief 35 = .ok (.aload_n 0, 1) := by decide +kernel
theorem dX7_chief_36 : decode cX7_chief 36 = .ok (.getfield 13, 3) := by decide +kernel
theorem dX7_chief_39 : decode cX7_chief 39 = .ok (.iload_n 1, 1) := by decide +kernel
theorem dX7_chief_40 : decode cX7_chief 40 = .ok (.laload, 1) := by decide +kernel
theorem dX7_chief_41 : decode cX7_chief 41 = .ok (.invokevirtual 137, 3) := by decide +kernel
theorem dX7_chief_44 : decode cX7_chief 44 = .ok (.aload_n 0, 1) := by decide +kernel
theorem dX7_chief_45 : decode cX7_chief 45 = .ok (.getfield 34, 3) := by decide +kernel
theorem dX7_chief_48 : decode cX7_chief 48 = .ok (.getfield 141, 3) := by decide +kernel
theorem dX7_chief_51 : decode cX7_chief 51 = .ok (.lreturn, 1) := by decide +kernel
theorem dX7_kin_0 : decode cX7_kin 0 = .ok (.iload_n 1, 1) := by decide +kernel
theorem dX7_kin_1 : decode cX7_kin 1 = .ok (.invokestatic 58, 3) := by decide +kernel
theorem dX7_kin_4 : decode cX7_kin 4 = .ok (.ifCond .ne 5, 3) := by decide +kernel
theorem dX7_kin_7 : decode cX7_kin 7 = .ok (.iconst (-1), 1) := by decide +kernel
theorem dX7_kin_8 : decode cX7_kin 8 = .ok (.ireturn, 1) := by decide +kernel
theorem dX7_kin_9 : decode cX7_kin 9 = .ok (.aload_n 0, 1) := by decide +kernel
theorem dX7_kin_10 : decode cX7_kin 10 = .ok (.getfield 9, 3) := by decide +kernel
theorem dX7_kin_13 : decode cX7_kin 13 = .ok (.iload_n 1, 1) := by decide +kernel
theorem dX7_kin_14 : decode cX7_kin 14 = .ok (.iaload, 1) := by decide +kernel
theorem dX7_kin_15 : decode cX7_kin 15 = .ok (.iconst 4, 1) := by decide +kernel
theorem dX7_kin_16 : decode cX7_kin 16 = .ok (.if_icmp .le 6, 3) := by decide +kernel
theorem dX7_kin_19 : decode cX7_kin 19 = .ok (.bipush (-3), 2) := by decide +kernel
theorem dX7_kin_21 : decode cX7_kin 21 = .ok (.ireturn, 1) := by decide +kernel
theorem dX7_kin_22 : decode cX7_kin 22 = .ok (.aload_n 0, 1) := by decide +kernel
theorem dX7_kin_23 : decode cX7_kin 23 = .ok (.getfield 34, 3) := by decide +kernel
theorem dX7_kin_26 : decode cX7_kin 26 = .ok (.aload_n 0, 1) := by decide +kernel
theorem dX7_kin_27 : decode cX7_kin 27 = .ok (.getfield 9, 3) := by decide +kernel
theorem dX7_kin_30 : decode cX7_kin 30 = .ok (.iload_n 1, 1) := by decide +kernel
theorem dX7_kin_31 : decode cX7_kin 31 = .ok (.iaload, 1) := by decide +kernel
theorem dX7_kin_32 : decode cX7_kin 32 = .ok (.aload_n 0, 1) := by decide +kernel
theorem dX7_kin_33 : decode cX7_kin 33 = .ok (.getfield 13, 3) := by decide +kernel
theorem dX7_kin_36 : decode cX7_kin 36 = .ok (.iload_n 1, 1) := by decide +kernel
theorem dX7_kin_37 : decode cX7_kin 37 = .ok (.laload, 1) := by decide +kernel
theorem dX7_kin_38 : decode cX7_kin 38 = .ok (.invokevirtual 137, 3) := by decide +kernel
theorem dX7_kin_41 : decode cX7_kin 41 = .ok (.aload_n 0, 1) := by decide +kernel
theorem dX7_kin_42 : decode cX7_kin 42 = .ok (.getfield 34, 3) := by decide +kernel
theorem dX7_kin_45 : decode cX7_kin 45 = .ok (.invokevirtual 145, 3) := by decide +kernel
theorem dX7_kin_48 : decode cX7_kin 48 = .ok (.ireturn, 1) := by decide +kernel
theorem dX7_gates_0 : decode cX7_gates 0 = .ok (.iload_n 1, 1) := by decide +kernel
theorem dX7_gates_1 : decode cX7_gates 1 = .ok (.iconst 1, 1) := by decide +kernel
theorem dX7_gates_2 : decode cX7_gates 2 = .ok (.iconst 4, 1) := by decide +kernel
theorem dX7_gates_3 : decode cX7_gates 3 = .ok (.invokestatic 62, 3) := by decide +kernel
theorem dX7_gates_6 : decode cX7_gates 6 = .ok (.ifCond .eq 11, 3) := by decide +kernel
theorem dX7_gates_9 : decode cX7_gates 9 = .ok (.getstatic 148, 3) := by decide +kernel
theorem dX7_gates_12 : decode cX7_gates 12 = .ok (.iload_n 1, 1) := by decide +kernel
theorem dX7_gates_13 : decode cX7_gates 13 = .ok (.iaload, 1) := by decide +kernel
theorem dX7_gates_14 : decode cX7_gates 14 = .ok (.goto 5, 3) := by decide +kernel
theorem dX7_gates_17 : decode cX7_gates 17 = .ok (.bipush (-2), 2) := by decide +kernel
theorem dX7_gates_19 : decode cX7_gates 19 = .ok (.ireturn, 1) := by decide +kernel
theorem dX7_kinds_0 : decode cX7_kinds 0 = .ok (.iload_n 1, 1) := by decide +kernel
theorem dX7_kinds_1 : decode cX7_kinds 1 = .ok (.iconst 1, 1) := by decide +kernel
theorem dX7_kinds_2 : decode cX7_kinds 2 = .ok (.iconst 3, 1) := by decide +kernel
theorem dX7_kinds_3 : decode cX7_kinds 3 = .ok (.invokestatic 62, 3) := by decide +kernel
theorem dX7_kinds_6 : decode cX7_kinds 6 = .ok (.ifCond .ne 6, 3) := by decide +kernel
theorem dX7_kinds_9 : decode cX7_kinds 9 = .ok (.bipush (-2), 2) := by decide +kernel
theorem dX7_kinds_11 : decode cX7_kinds 11 = .ok (.ireturn, 1) := by decide +kernel
theorem dX7_kinds_12 : decode cX7_kinds 12 = .ok (.iload_n 2, 1) := by decide +kernel
theorem dX7_kinds_13 : decode cX7_kinds 13 = .ok (.ifCond .eq 11, 3) := by decide +kernel
theorem dX7_kinds_16 : decode cX7_kinds 16 = .ok (.getstatic 151, 3) := by decide +kernel
theorem dX7_kinds_19 : decode cX7_kinds 19 = .ok (.iload_n 1, 1) := by decide +kernel
theorem dX7_kinds_20 : decode cX7_kinds 20 = .ok (.iaload, 1) := by decide +kernel
theorem dX7_kinds_21 : decode cX7_kinds 21 = .ok (.goto 8, 3) := by decide +kernel
theorem dX7_kinds_24 : decode cX7_kinds 24 = .ok (.getstatic 154, 3) := by decide +kernel
theorem dX7_kinds_27 : decode cX7_kinds 27 = .ok (.iload_n 1, 1) := by decide +kernel
theorem dX7_kinds_28 : decode cX7_kinds 28 = .ok (.iaload, 1) := by decide +kernel
theorem dX7_kinds_29 : decode cX7_kinds 29 = .ok (.ireturn, 1) := by decide +kernel
theorem dX7_fewest_0 : decode cX7_fewest 0 = .ok (.iload_n 1, 1) := by decide +kernel
theorem dX7_fewest_1 : decode cX7_fewest 1 = .ok (.invokestatic 58, 3) := by decide +kernel
theorem dX7_fewest_4 : decode cX7_fewest 4 = .ok (.ifCond .ne 5, 3) := by decide +kernel
theorem dX7_fewest_7 : decode cX7_fewest 7 = .ok (.iconst (-1), 1) := by decide +kernel
theorem dX7_fewest_8 : decode cX7_fewest 8 = .ok (.ireturn, 1) := by decide +kernel
theorem dX7_fewest_9 : decode cX7_fewest 9 = .ok (.aload_n 0, 1) := by decide +kernel
theorem dX7_fewest_10 : decode cX7_fewest 10 = .ok (.getfield 9, 3) := by decide +kernel
theorem dX7_fewest_13 : decode cX7_fewest 13 = .ok (.iload_n 1, 1) := by decide +kernel
theorem dX7_fewest_14 : decode cX7_fewest 14 = .ok (.iaload, 1) := by decide +kernel
theorem dX7_fewest_15 : decode cX7_fewest 15 = .ok (.iconst 3, 1) := by decide +kernel
theorem dX7_fewest_16 : decode cX7_fewest 16 = .ok (.if_icmp .le 6, 3) := by decide +kernel
theorem dX7_fewest_19 : decode cX7_fewest 19 = .ok (.bipush (-3), 2) := by decide +kernel
theorem dX7_fewest_21 : decode cX7_fewest 21 = .ok (.ireturn, 1) := by decide +kernel
theorem dX7_fewest_22 : decode cX7_fewest 22 = .ok (.aload_n 0, 1) := by decide +kernel
theorem dX7_fewest_23 : decode cX7_fewest 23 = .ok (.iload_n 1, 1) := by decide +kernel
theorem dX7_fewest_24 : decode cX7_fewest 24 = .ok (.invokevirtual 112, 3) := by decide +kernel
theorem dX7_fewest_27 : decode cX7_fewest 27 = .ok (.ifCond .eq 7, 3) := by decide +kernel
theorem dX7_fewest_30 : decode cX7_fewest 30 = .ok (.iconst 1, 1) := by decide +kernel
theorem dX7_fewest_31 : decode cX7_fewest 31 = .ok (.goto 4, 3) := by decide +kernel
theorem dX7_fewest_34 : decode cX7_fewest 34 = .ok (.iconst 2, 1) := by decide +kernel
theorem dX7_fewest_35 : decode cX7_fewest 35 = .ok (.ireturn, 1) := by decide +kernel
theorem dX7_first_0 : decode cX7_first 0 = .ok (.iload_n 1, 1) := by decide +kernel
theorem dX7_first_1 : decode cX7_first 1 = .ok (.invokestatic 58, 3) := by decide +kernel
theorem dX7_first_4 : decode cX7_first 4 = .ok (.ifCond .ne 5, 3) := by decide +kernel
theorem dX7_first_7 : decode cX7_first 7 = .ok (.iconst (-1), 1) := by decide +kernel
theorem dX7_first_8 : decode cX7_first 8 = .ok (.ireturn, 1) := by decide +kernel
theorem dX7_first_9 : decode cX7_first 9 = .ok (.aload_n 0, 1) := by decide +kernel
theorem dX7_first_10 : decode cX7_first 10 = .ok (.getfield 9, 3) := by decide +kernel
theorem dX7_first_13 : decode cX7_first 13 = .ok (.iload_n 1, 1) := by decide +kernel
theorem dX7_first_14 : decode cX7_first 14 = .ok (.iaload, 1) := by decide +kernel
theorem dX7_first_15 : decode cX7_first 15 = .ok (.iconst 3, 1) := by decide +kernel
theorem dX7_first_16 : decode cX7_first 16 = .ok (.if_icmp .le 6, 3) := by decide +kernel
theorem dX7_first_19 : decode cX7_first 19 = .ok (.bipush (-3), 2) := by decide +kernel
theorem dX7_first_21 : decode cX7_first 21 = .ok (.ireturn, 1) := by decide +kernel
theorem dX7_first_22 : decode cX7_first 22 = .ok (.aload_n 0, 1) := by decide +kernel
theorem dX7_first_23 : decode cX7_first 23 = .ok (.iload_n 1, 1) := by decide +kernel
theorem dX7_first_24 : decode cX7_first 24 = .ok (.invokevirtual 112, 3) := by decide +kernel
theorem dX7_first_27 : decode cX7_first 27 = .ok (.ifCond .eq 8, 3) := by decide +kernel
theorem dX7_first_30 : decode cX7_first 30 = .ok (.ldc 89, 2) := by decide +kernel
theorem dX7_first_32 : decode cX7_first 32 = .ok (.goto 22, 3) := by decide +kernel
theorem dX7_first_35 : decode cX7_first 35 = .ok (.aload_n 0, 1) := by decide +kernel
theorem dX7_first_36 : decode cX7_first 36 = .ok (.getfield 41, 3) := by decide +kernel
theorem dX7_first_39 : decode cX7_first 39 = .ok (.aload_n 0, 1) := by decide +kernel
theorem dX7_first_40 : decode cX7_first 40 = .ok (.getfield 9, 3) := by decide +kernel
theorem dX7_first_43 : decode cX7_first 43 = .ok (.iload_n 1, 1) := by decide +kernel
theorem dX7_first_44 : decode cX7_first 44 = .ok (.iaload, 1) := by decide +kernel
theorem dX7_first_45 : decode cX7_first 45 = .ok (.aload_n 0, 1) := by decide +kernel
theorem dX7_first_46 : decode cX7_first 46 = .ok (.getfield 13, 3) := by decide +kernel
theorem dX7_first_49 : decode cX7_first 49 = .ok (.iload_n 1, 1) := by decide +kernel
theorem dX7_first_50 : decode cX7_first 50 = .ok (.laload, 1) := by decide +kernel
theorem dX7_first_51 : decode cX7_first 51 = .ok (.invokevirtual 157, 3) := by decide +kernel
theorem dX7_first_54 : decode cX7_first 54 = .ok (.ireturn, 1) := by decide +kernel
theorem dX7_net_0 : decode cX7_net 0 = .ok (.iload_n 1, 1) := by decide +kernel
theorem dX7_net_1 : decode cX7_net 1 = .ok (.iconst 1, 1) := by decide +kernel
theorem dX7_net_2 : decode cX7_net 2 = .ok (.iconst 4, 1) := by decide +kernel
theorem dX7_net_3 : decode cX7_net 3 = .ok (.invokestatic 62, 3) := by decide +kernel
theorem dX7_net_6 : decode cX7_net 6 = .ok (.ifCond .ne 6, 3) := by decide +kernel
theorem dX7_net_9 : decode cX7_net 9 = .ok (.bipush (-2), 2) := by decide +kernel
theorem dX7_net_11 : decode cX7_net 11 = .ok (.ireturn, 1) := by decide +kernel
theorem dX7_net_12 : decode cX7_net 12 = .ok (.aload_n 0, 1) := by decide +kernel
theorem dX7_net_13 : decode cX7_net 13 = .ok (.getfield 48, 3) := by decide +kernel
theorem dX7_net_16 : decode cX7_net 16 = .ok (.getfield 161, 3) := by decide +kernel
theorem dX7_net_19 : decode cX7_net 19 = .ok (.istore_n 2, 1) := by decide +kernel
theorem dX7_net_20 : decode cX7_net 20 = .ok (.aload_n 0, 1) := by decide +kernel
theorem dX7_net_21 : decode cX7_net 21 = .ok (.getfield 48, 3) := by decide +kernel
theorem dX7_net_24 : decode cX7_net 24 = .ok (.iload_n 1, 1) := by decide +kernel
theorem dX7_net_25 : decode cX7_net 25 = .ok (.invokevirtual 164, 3) := by decide +kernel
theorem dX7_net_28 : decode cX7_net 28 = .ok (.iload_n 2, 1) := by decide +kernel
theorem dX7_net_29 : decode cX7_net 29 = .ok (.ireturn, 1) := by decide +kernel
theorem dX7_put_0 : decode cX7_put 0 = .ok (.iload_n 1, 1) := by decide +kernel
theorem dX7_put_1 : decode cX7_put 1 = .ok (.iconst 0, 1) := by decide +kernel
theorem dX7_put_2 : decode cX7_put 2 = .ok (.aload_n 0, 1) := by decide +kernel
theorem dX7_put_3 : decode cX7_put 3 = .ok (.getfield 48, 3) := by decide +kernel
theorem dX7_put_6 : decode cX7_put 6 = .ok (.getfield 168, 3) := by decide +kernel
theorem dX7_put_9 : decode cX7_put 9 = .ok (.aload_n 0, 1) := by decide +kernel
theorem dX7_put_10 : decode cX7_put 10 = .ok (.getfield 48, 3) := by decide +kernel
theorem dX7_put_13 : decode cX7_put 13 = .ok (.getfield 161, 3) := by decide +kernel
theorem dX7_put_16 : decode cX7_put 16 = .ok (.iadd, 1) := by decide +kernel
theorem dX7_put_17 : decode cX7_put 17 = .ok (.iconst 1, 1) := by decide +kernel
theorem dX7_put_18 : decode cX7_put 18 = .ok (.isub, 1) := by decide +kernel
theorem dX7_put_19 : decode cX7_put 19 = .ok (.invokestatic 62, 3) := by decide +kernel
theorem dX7_put_22 : decode cX7_put 22 = .ok (.ifCond .ne 5, 3) := by decide +kernel
theorem dX7_put_25 : decode cX7_put 25 = .ok (.iconst (-1), 1) := by decide +kernel
theorem dX7_put_26 : decode cX7_put 26 = .ok (.ireturn, 1) := by decide +kernel
theorem dX7_put_27 : decode cX7_put 27 = .ok (.iload_n 2, 1) := by decide +kernel
theorem dX7_put_28 : decode cX7_put 28 = .ok (.bipush (-9), 2) := by decide +kernel
theorem dX7_put_30 : decode cX7_put 30 = .ok (.bipush 9, 2) := by decide +kernel
theorem dX7_put_32 : decode cX7_put 32 = .ok (.invokestatic 62, 3) := by decide +kernel
theorem dX7_put_35 : decode cX7_put 35 = .ok (.ifCond .ne 6, 3) := by decide +kernel
theorem dX7_put_38 : decode cX7_put 38 = .ok (.bipush (-2), 2) := by decide +kernel
theorem dX7_put_40 : decode cX7_put 40 = .ok (.ireturn, 1) := by decide +kernel
theorem dX7_put_41 : decode cX7_put 41 = .ok (.aload_n 0, 1) := by decide +kernel
theorem dX7_put_42 : decode cX7_put 42 = .ok (.getfield 48, 3) := by decide +kernel
theorem dX7_put_45 : decode cX7_put 45 = .ok (.iload_n 1, 1) := by decide +kernel
theorem dX7_put_46 : decode cX7_put 46 = .ok (.iload_n 2, 1) := by decide +kernel
theorem dX7_put_47 : decode cX7_put 47 = .ok (.invokevirtual 171, 3) := by decide +kernel
theorem dX7_put_50 : decode cX7_put 50 = .ok (.ireturn, 1) := by decide +kernel
theorem dX7_add_0 : decode cX7_add 0 = .ok (.iload_n 1, 1) := by decide +kernel
theorem dX7_add_1 : decode cX7_add 1 = .ok (.bipush (-99), 2) := by decide +kernel
theorem dX7_add_3 : decode cX7_add 3 = .ok (.bipush 99, 2) := by decide +kernel
theorem dX7_add_5 : decode cX7_add 5 = .ok (.invokestatic 62, 3) := by decide +kernel
theorem dX7_add_8 : decode cX7_add 8 = .ok (.ifCond .ne 6, 3) := by decide +kernel
theorem dX7_add_11 : decode cX7_add 11 = .ok (.bipush (-2), 2) := by decide +kernel
theorem dX7_add_13 : decode cX7_add 13 = .ok (.ireturn, 1) := by decide +kernel
theorem dX7_add_14 : decode cX7_add 14 = .ok (.aload_n 0, 1) := by decide +kernel
theorem dX7_add_15 : decode cX7_add 15 = .ok (.getfield 48, 3) := by decide +kernel
theorem dX7_add_18 : decode cX7_add 18 = .ok (.getfield 161, 3) := by decide +kernel
theorem dX7_add_21 : decode cX7_add 21 = .ok (.bipush 8, 2) := by decide +kernel
theorem dX7_add_23 : decode cX7_add 23 = .ok (.if_icmp .lt 6, 3) := by decide +kernel
theorem dX7_add_26 : decode cX7_add 26 = .ok (.bipush (-4), 2) := by decide +kernel
theorem dX7_add_28 : decode cX7_add 28 = .ok (.ireturn, 1) := by decide +kernel
theorem dX7_add_29 : decode cX7_add 29 = .ok (.aload_n 0, 1) := by decide +kernel
theorem dX7_add_30 : decode cX7_add 30 = .ok (.getfield 48, 3) := by decide +kernel
theorem dX7_add_33 : decode cX7_add 33 = .ok (.iload_n 1, 1) := by decide +kernel
theorem dX7_add_34 : decode cX7_add 34 = .ok (.invokevirtual 175, 3) := by decide +kernel
theorem dX7_add_37 : decode cX7_add 37 = .ok (.ireturn, 1) := by decide +kernel
theorem dX7_tell_0 : decode cX7_tell 0 = .ok (.iload_n 1, 1) := by decide +kernel
theorem dX7_tell_1 : decode cX7_tell 1 = .ok (.invokestatic 58, 3) := by decide +kernel
theorem dX7_tell_4 : decode cX7_tell 4 = .ok (.ifCond .eq 11, 3) := by decide +kernel
theorem dX7_tell_7 : decode cX7_tell 7 = .ok (.aload_n 0, 1) := by decide +kernel
theorem dX7_tell_8 : decode cX7_tell 8 = .ok (.iload_n 2, 1) := by decide +kernel
theorem dX7_tell_9 : decode cX7_tell 9 = .ok (.invokevirtual 178, 3) := by decide +kernel
theorem dX7_tell_12 : decode cX7_tell 12 = .ok (.ifCond .ne 5, 3) := by decide +kernel
theorem dX7_tell_15 : decode cX7_tell 15 = .ok (.iconst (-1), 1) := by decide +kernel
theorem dX7_tell_16 : decode cX7_tell 16 = .ok (.ireturn, 1) := by decide +kernel
theorem dX7_tell_17 : decode cX7_tell 17 = .ok (.aload_n 0, 1) := by decide +kernel
theorem dX7_tell_18 : decode cX7_tell 18 = .ok (.iload_n 1, 1) := by decide +kernel
theorem dX7_tell_19 : decode cX7_tell 19 = .ok (.aload_n 0, 1) := by decide +kernel
theorem dX7_tell_20 : decode cX7_tell 20 = .ok (.getfield 48, 3) := by decide +kernel
theorem dX7_tell_23 : decode cX7_tell 23 = .ok (.getfield 168, 3) := by decide +kernel
theorem dX7_tell_26 : decode cX7_tell 26 = .ok (.aload_n 0, 1) := by decide +kernel
theorem dX7_tell_27 : decode cX7_tell 27 = .ok (.getfield 48, 3) := by decide +kernel
theorem dX7_tell_30 : decode cX7_tell 30 = .ok (.getfield 181, 3) := by decide +kernel
theorem dX7_tell_33 : decode cX7_tell 33 = .ok (.iload_n 2, 1) := by decide +kernel
theorem dX7_tell_34 : decode cX7_tell 34 = .ok (.laload, 1) := by decide +kernel
theorem dX7_tell_35 : decode cX7_tell 35 = .ok (.invokevirtual 72, 3) := by decide +kernel
theorem dX7_tell_38 : decode cX7_tell 38 = .ok (.ireturn, 1) := by decide +kernel
theorem dX7_unlike_0 : decode cX7_unlike 0 = .ok (.iload_n 1, 1) := by decide +kernel
theorem dX7_unlike_1 : decode cX7_unlike 1 = .ok (.invokestatic 58, 3) := by decide +kernel
theorem dX7_unlike_4 : decode cX7_unlike 4 = .ok (.ifCond .ne 5, 3) := by decide +kernel
theorem dX7_unlike_7 : decode cX7_unlike 7 = .ok (.iconst (-1), 1) := by decide +kernel
theorem dX7_unlike_8 : decode cX7_unlike 8 = .ok (.ireturn, 1) := by decide +kernel
theorem dX7_unlike_9 : decode cX7_unlike 9 = .ok (.aload_n 0, 1) := by decide +kernel
theorem dX7_unlike_10 : decode cX7_unlike 10 = .ok (.getfield 48, 3) := by decide +kernel
theorem dX7_unlike_13 : decode cX7_unlike 13 = .ok (.getfield 161, 3) := by decide +kernel
theorem dX7_unlike_16 : decode cX7_unlike 16 = .ok (.ifCond .eq 19, 3) := by decide +kernel
theorem dX7_unlike_19 : decode cX7_unlike 19 = .ok (.aload_n 0, 1) := by decide +kernel
theorem dX7_unlike_20 : decode cX7_unlike 20 = .ok (.getfield 48, 3) := by decide +kernel
theorem dX7_unlike_23 : decode cX7_unlike 23 = .ok (.getfield 168, 3) := by decide +kernel
theorem dX7_unlike_26 : decode cX7_unlike 26 = .ok (.aload_n 0, 1) := by decide +kernel
theorem dX7_unlike_27 : decode cX7_unlike 27 = .ok (.getfield 9, 3) := by decide +kernel
theorem dX7_unlike_30 : decode cX7_unlike 30 = .ok (.iload_n 1, 1) := by decide +kernel
theorem dX7_unlike_31 : decode cX7_unlike 31 = .ok (.iaload, 1) := by decide +kernel
theorem dX7_unlike_32 : decode cX7_unlike 32 = .ok (.if_icmp .eq 6, 3) := by decide +kernel
theorem dX7_unlike_35 : decode cX7_unlike 35 = .ok (.bipush (-3), 2) := by decide +kernel
theorem dX7_unlike_37 : decode cX7_unlike 37 = .ok (.ireturn, 1) := by decide +kernel
theorem dX7_unlike_38 : decode cX7_unlike 38 = .ok (.aload_n 0, 1) := by decide +kernel
theorem dX7_unlike_39 : decode cX7_unlike 39 = .ok (.getfield 48, 3) := by decide +kernel
theorem dX7_unlike_42 : decode cX7_unlike 42 = .ok (.invokevirtual 184, 3) := by decide +kernel
theorem dX7_unlike_45 : decode cX7_unlike 45 = .ok (.aload_n 0, 1) := by decide +kernel
theorem dX7_unlike_46 : decode cX7_unlike 46 = .ok (.getfield 13, 3) := by decide +kernel
theorem dX7_unlike_49 : decode cX7_unlike 49 = .ok (.iload_n 1, 1) := by decide +kernel
theorem dX7_unlike_50 : decode cX7_unlike 50 = .ok (.laload, 1) := by decide +kernel
theorem dX7_unlike_51 : decode cX7_unlike 51 = .ok (.lxor, 1) := by decide +kernel
theorem dX7_unlike_52 : decode cX7_unlike 52 = .ok (.lstore_n 2, 1) := by decide +kernel
theorem dX7_unlike_53 : decode cX7_unlike 53 = .ok (.lload_n 2, 1) := by decide +kernel
theorem dX7_unlike_54 : decode cX7_unlike 54 = .ok (.lconst 0, 1) := by decide +kernel
theorem dX7_unlike_55 : decode cX7_unlike 55 = .ok (.lcmp, 1) := by decide +kernel
theorem dX7_unlike_56 : decode cX7_unlike 56 = .ok (.ifCond .ne 8, 3) := by decide +kernel
theorem dX7_unlike_59 : decode cX7_unlike 59 = .ok (.ldc 89, 2) := by decide +kernel
theorem dX7_unlike_61 : decode cX7_unlike 61 = .ok (.goto 7, 3) := by decide +kernel
theorem dX7_unlike_64 : decode cX7_unlike 64 = .ok (.lload_n 2, 1) := by decide +kernel
theorem dX7_unlike_65 : decode cX7_unlike 65 = .ok (.invokestatic 188, 3) := by decide +kernel
theorem dX7_unlike_68 : decode cX7_unlike 68 = .ok (.ireturn, 1) := by decide +kernel
theorem dX7_depth_0 : decode cX7_depth 0 = .ok (.aload_n 0, 1) := by decide +kernel
theorem dX7_depth_1 : decode cX7_depth 1 = .ok (.iload_n 1, 1) := by decide +kernel
theorem dX7_depth_2 : decode cX7_depth 2 = .ok (.invokevirtual 178, 3) := by decide +kernel
theorem dX7_depth_5 : decode cX7_depth 5 = .ok (.ifCond .eq 15, 3) := by decide +kernel
theorem dX7_depth_8 : decode cX7_depth 8 = .ok (.aload_n 0, 1) := by decide +kernel
theorem dX7_depth_9 : decode cX7_depth 9 = .ok (.getfield 48, 3) := by decide +kernel
theorem dX7_depth_12 : decode cX7_depth 12 = .ok (.getfield 191, 3) := by decide +kernel
theorem dX7_depth_15 : decode cX7_depth 15 = .ok (.iload_n 1, 1) := by decide +kernel
theorem dX7_depth_16 : decode cX7_depth 16 = .ok (.iaload, 1) := by decide +kernel
theorem dX7_depth_17 : decode cX7_depth 17 = .ok (.goto 4, 3) := by decide +kernel
theorem dX7_depth_20 : decode cX7_depth 20 = .ok (.iconst (-1), 1) := by decide +kernel
theorem dX7_depth_21 : decode cX7_depth 21 = .ok (.ireturn, 1) := by decide +kernel
theorem dX7_idle_0 : decode cX7_idle 0 = .ok (.aload_n 0, 1) := by decide +kernel
theorem dX7_idle_1 : decode cX7_idle 1 = .ok (.iload_n 1, 1) := by decide +kernel
theorem dX7_idle_2 : decode cX7_idle 2 = .ok (.invokevirtual 178, 3) := by decide +kernel
theorem dX7_idle_5 : decode cX7_idle 5 = .ok (.ifCond .ne 5, 3) := by decide +kernel
theorem dX7_idle_8 : decode cX7_idle 8 = .ok (.iconst (-1), 1) := by decide +kernel
theorem dX7_idle_9 : decode cX7_idle 9 = .ok (.ireturn, 1) := by decide +kernel
theorem dX7_idle_10 : decode cX7_idle 10 = .ok (.aload_n 0, 1) := by decide +kernel
theorem dX7_idle_11 : decode cX7_idle 11 = .ok (.getfield 48, 3) := by decide +kernel
theorem dX7_idle_14 : decode cX7_idle 14 = .ok (.iload_n 1, 1) := by decide +kernel
theorem dX7_idle_15 : decode cX7_idle 15 = .ok (.iload_n 2, 1) := by decide +kernel
theorem dX7_idle_16 : decode cX7_idle 16 = .ok (.invokevirtual 194, 3) := by decide +kernel
theorem dX7_idle_19 : decode cX7_idle 19 = .ok (.aload_n 0, 1) := by decide +kernel
theorem dX7_idle_20 : decode cX7_idle 20 = .ok (.getfield 48, 3) := by decide +kernel
theorem dX7_idle_23 : decode cX7_idle 23 = .ok (.invokevirtual 184, 3) := by decide +kernel
theorem dX7_idle_26 : decode cX7_idle 26 = .ok (.lcmp, 1) := by decide +kernel
theorem dX7_idle_27 : decode cX7_idle 27 = .ok (.ifCond .ne 7, 3) := by decide +kernel
theorem dX7_idle_30 : decode cX7_idle 30 = .ok (.iconst 1, 1) := by decide +kernel
theorem dX7_idle_31 : decode cX7_idle 31 = .ok (.goto 4, 3) := by decide +kernel
theorem dX7_idle_34 : decode cX7_idle 34 = .ok (.iconst 0, 1) := by decide +kernel
theorem dX7_idle_35 : decode cX7_idle 35 = .ok (.ireturn, 1) := by decide +kernel
theorem dX7_count_0 : decode cX7_count 0 = .ok (.iload_n 1, 1) := by decide +kernel
theorem dX7_count_1 : decode cX7_count 1 = .ok (.lookupswitch 43 #[(0, 27), (1, 35)], 27) := by decide +kernel
theorem dX7_count_28 : decode cX7_count 28 = .ok (.aload_n 0, 1) := by decide +kernel
theorem dX7_count_29 : decode cX7_count 29 = .ok (.getfield 48, 3) := by decide +kernel
theorem dX7_count_32 : decode cX7_count 32 = .ok (.getfield 168, 3) := by decide +kernel
theorem dX7_count_35 : decode cX7_count 35 = .ok (.ireturn, 1) := by decide +kernel
theorem dX7_count_36 : decode cX7_count 36 = .ok (.aload_n 0, 1) := by decide +kernel
theorem dX7_count_37 : decode cX7_count 37 = .ok (.getfield 48, 3) := by decide +kernel
theorem dX7_count_40 : decode cX7_count 40 = .ok (.getfield 161, 3) := by decide +kernel
theorem dX7_count_43 : decode cX7_count 43 = .ok (.ireturn, 1) := by decide +kernel
theorem dX7_count_44 : decode cX7_count 44 = .ok (.bipush (-2), 2) := by decide +kernel
theorem dX7_count_46 : decode cX7_count 46 = .ok (.ireturn, 1) := by decide +kernel
theorem dX7_isWithin_0 : decode cX7_isWithin 0 = .ok (.iload_n 0, 1) := by decide +kernel
theorem dX7_isWithin_1 : decode cX7_isWithin 1 = .ok (.iload_n 1, 1) := by decide +kernel
theorem dX7_isWithin_2 : decode cX7_isWithin 2 = .ok (.if_icmp .lt 12, 3) := by decide +kernel
theorem dX7_isWithin_5 : decode cX7_isWithin 5 = .ok (.iload_n 0, 1) := by decide +kernel
theorem dX7_isWithin_6 : decode cX7_isWithin 6 = .ok (.iload_n 2, 1) := by decide +kernel
theorem dX7_isWithin_7 : decode cX7_isWithin 7 = .ok (.if_icmp .gt 7, 3) := by decide +kernel
theorem dX7_isWithin_10 : decode cX7_isWithin 10 = .ok (.iconst 1, 1) := by decide +kernel
theorem dX7_isWithin_11 : decode cX7_isWithin 11 = .ok (.goto 4, 3) := by decide +kernel
theorem dX7_isWithin_14 : decode cX7_isWithin 14 = .ok (.iconst 0, 1) := by decide +kernel
theorem dX7_isWithin_15 : decode cX7_isWithin 15 = .ok (.ireturn, 1) := by decide +kernel
theorem dX7_isSlot_0 : decode cX7_isSlot 0 = .ok (.iload_n 0, 1) := by decide +kernel
theorem dX7_isSlot_1 : decode cX7_isSlot 1 = .ok (.iconst 0, 1) := by decide +kernel
theorem dX7_isSlot_2 : decode cX7_isSlot 2 = .ok (.bipush 7, 2) := by decide +kernel
theorem dX7_isSlot_4 : decode cX7_isSlot 4 = .ok (.invokestatic 62, 3) := by decide +kernel
theorem dX7_isSlot_7 : decode cX7_isSlot 7 = .ok (.ireturn, 1) := by decide +kernel
theorem dX7_isInput_0 : decode cX7_isInput 0 = .ok (.iload_n 1, 1) := by decide +kernel
theorem dX7_isInput_1 : decode cX7_isInput 1 = .ok (.invokestatic 58, 3) := by decide +kernel
theorem dX7_isInput_4 : decode cX7_isInput 4 = .ok (.ifCond .eq 23, 3) := by decide +kernel
theorem dX7_isInput_7 : decode cX7_isInput 7 = .ok (.iload_n 2, 1) := by decide +kernel
theorem dX7_isInput_8 : decode cX7_isInput 8 = .ok (.iconst 0, 1) := by decide +kernel
theorem dX7_isInput_9 : decode cX7_isInput 9 = .ok (.aload_n 0, 1) := by decide +kernel
theorem dX7_isInput_10 : decode cX7_isInput 10 = .ok (.getfield 9, 3) := by decide +kernel
theorem dX7_isInput_13 : decode cX7_isInput 13 = .ok (.iload_n 1, 1) := by decide +kernel
theorem dX7_isInput_14 : decode cX7_isInput 14 = .ok (.iaload, 1) := by decide +kernel
theorem dX7_isInput_15 : decode cX7_isInput 15 = .ok (.iconst 1, 1) := by decide +kernel
theorem dX7_isInput_16 : decode cX7_isInput 16 = .ok (.isub, 1) := by decide +kernel
theorem dX7_isInput_17 : decode cX7_isInput 17 = .ok (.invokestatic 62, 3) := by decide +kernel
theorem dX7_isInput_20 : decode cX7_isInput 20 = .ok (.ifCond .eq 7, 3) := by decide +kernel
theorem dX7_isInput_23 : decode cX7_isInput 23 = .ok (.iconst 1, 1) := by decide +kernel
theorem dX7_isInput_24 : decode cX7_isInput 24 = .ok (.goto 4, 3) := by decide +kernel
theorem dX7_isInput_27 : decode cX7_isInput 27 = .ok (.iconst 0, 1) := by decide +kernel
theorem dX7_isInput_28 : decode cX7_isInput 28 = .ok (.ireturn, 1) := by decide +kernel
theorem dX7_isGateOfNet_0 : decode cX7_isGateOfNet 0 = .ok (.iload_n 1, 1) := by decide +kernel
theorem dX7_isGateOfNet_1 : decode cX7_isGateOfNet 1 = .ok (.iconst 0, 1) := by decide +kernel
theorem dX7_isGateOfNet_2 : decode cX7_isGateOfNet 2 = .ok (.aload_n 0, 1) := by decide +kernel
theorem dX7_isGateOfNet_3 : decode cX7_isGateOfNet 3 = .ok (.getfield 48, 3) := by decide +kernel
theorem dX7_isGateOfNet_6 : decode cX7_isGateOfNet 6 = .ok (.getfield 161, 3) := by decide +kernel
theorem dX7_isGateOfNet_9 : decode cX7_isGateOfNet 9 = .ok (.iconst 1, 1) := by decide +kernel
theorem dX7_isGateOfNet_10 : decode cX7_isGateOfNet 10 = .ok (.isub, 1) := by decide +kernel
theorem dX7_isGateOfNet_11 : decode cX7_isGateOfNet 11 = .ok (.invokestatic 62, 3) := by decide +kernel
theorem dX7_isGateOfNet_14 : decode cX7_isGateOfNet 14 = .ok (.ireturn, 1) := by decide +kernel
theorem dX7_keep_0 : decode cX7_keep 0 = .ok (.aload_n 0, 1) := by decide +kernel
theorem dX7_keep_1 : decode cX7_keep 1 = .ok (.getfield 9, 3) := by decide +kernel
theorem dX7_keep_4 : decode cX7_keep 4 = .ok (.iload_n 1, 1) := by decide +kernel
theorem dX7_keep_5 : decode cX7_keep 5 = .ok (.iload_n 2, 1) := by decide +kernel
theorem dX7_keep_6 : decode cX7_keep 6 = .ok (.iastore, 1) := by decide +kernel
theorem dX7_keep_7 : decode cX7_keep 7 = .ok (.aload_n 0, 1) := by decide +kernel
theorem dX7_keep_8 : decode cX7_keep 8 = .ok (.getfield 13, 3) := by decide +kernel
theorem dX7_keep_11 : decode cX7_keep 11 = .ok (.iload_n 1, 1) := by decide +kernel
theorem dX7_keep_12 : decode cX7_keep 12 = .ok (.lload_n 3, 1) := by decide +kernel
theorem dX7_keep_13 : decode cX7_keep 13 = .ok (.lastore, 1) := by decide +kernel
theorem dX7_keep_14 : decode cX7_keep 14 = .ok (.lload_n 3, 1) := by decide +kernel
theorem dX7_keep_15 : decode cX7_keep 15 = .ok (.invokestatic 102, 3) := by decide +kernel
theorem dX7_keep_18 : decode cX7_keep 18 = .ok (.ireturn, 1) := by decide +kernel
theorem dX7_sumAt_0 : decode cX7_sumAt 0 = .ok (.iconst 0, 1) := by decide +kernel
theorem dX7_sumAt_1 : decode cX7_sumAt 1 = .ok (.istore 4, 2) := by decide +kernel
theorem dX7_sumAt_3 : decode cX7_sumAt 3 = .ok (.lload_n 2, 1) := by decide +kernel
theorem dX7_sumAt_4 : decode cX7_sumAt 4 = .ok (.lstore 5, 2) := by decide +kernel
theorem dX7_sumAt_6 : decode cX7_sumAt 6 = .ok (.iconst 0, 1) := by decide +kernel
theorem dX7_sumAt_7 : decode cX7_sumAt 7 = .ok (.istore 7, 2) := by decide +kernel
theorem dX7_sumAt_9 : decode cX7_sumAt 9 = .ok (.iload 7, 2) := by decide +kernel
theorem dX7_sumAt_11 : decode cX7_sumAt 11 = .ok (.iload_n 1, 1) := by decide +kernel
theorem dX7_sumAt_12 : decode cX7_sumAt 12 = .ok (.if_icmp .ge 41, 3) := by decide +kernel
theorem dX7_sumAt_15 : decode cX7_sumAt 15 = .ok (.iload_n 0, 1) := by decide +kernel
theorem dX7_sumAt_16 : decode cX7_sumAt 16 = .ok (.iload 7, 2) := by decide +kernel
theorem dX7_sumAt_18 : decode cX7_sumAt 18 = .ok (.invokestatic 198, 3) := by decide +kernel
theorem dX7_sumAt_21 : decode cX7_sumAt 21 = .ok (.ifCond .eq 18, 3) := by decide +kernel
theorem dX7_sumAt_24 : decode cX7_sumAt 24 = .ok (.iload 4, 2) := by decide +kernel
theorem dX7_sumAt_26 : decode cX7_sumAt 26 = .ok (.lload 5, 2) := by decide +kernel
theorem dX7_sumAt_28 : decode cX7_sumAt 28 = .ok (.ldc2_w 201, 3) := by decide +kernel
theorem dX7_sumAt_31 : decode cX7_sumAt 31 = .ok (.lrem, 1) := by decide +kernel
theorem dX7_sumAt_32 : decode cX7_sumAt 32 = .ok (.l2i, 1) := by decide +kernel
theorem dX7_sumAt_33 : decode cX7_sumAt 33 = .ok (.bipush 50, 2) := by decide +kernel
theorem dX7_sumAt_35 : decode cX7_sumAt 35 = .ok (.isub, 1) := by decide +kernel
theorem dX7_sumAt_36 : decode cX7_sumAt 36 = .ok (.iadd, 1) := by decide +kernel
theorem dX7_sumAt_37 : decode cX7_sumAt 37 = .ok (.istore 4, 2) := by decide +kernel
theorem dX7_sumAt_39 : decode cX7_sumAt 39 = .ok (.lload 5, 2) := by decide +kernel
theorem dX7_sumAt_41 : decode cX7_sumAt 41 = .ok (.ldc2_w 201, 3) := by decide +kernel
theorem dX7_sumAt_44 : decode cX7_sumAt 44 = .ok (.ldiv, 1) := by decide +kernel
theorem dX7_sumAt_45 : decode cX7_sumAt 45 = .ok (.lstore 5, 2) := by decide +kernel
theorem dX7_sumAt_47 : decode cX7_sumAt 47 = .ok (.iinc 7 1, 3) := by decide +kernel
theorem dX7_sumAt_50 : decode cX7_sumAt 50 = .ok (.goto (-41), 3) := by decide +kernel
theorem dX7_sumAt_53 : decode cX7_sumAt 53 = .ok (.iload 4, 2) := by decide +kernel
theorem dX7_sumAt_55 : decode cX7_sumAt 55 = .ok (.ireturn, 1) := by decide +kernel
theorem dX7_tellsGate_0 : decode cX7_tellsGate 0 = .ok (.aload_n 0, 1) := by decide +kernel
theorem dX7_tellsGate_1 : decode cX7_tellsGate 1 = .ok (.getfield 20, 3) := by decide +kernel
theorem dX7_tellsGate_4 : decode cX7_tellsGate 4 = .ok (.aload_n 0, 1) := by decide +kernel
theorem dX7_tellsGate_5 : decode cX7_tellsGate 5 = .ok (.getfield 9, 3) := by decide +kernel
theorem dX7_tellsGate_8 : decode cX7_tellsGate 8 = .ok (.iload_n 1, 1) := by decide +kernel
theorem dX7_tellsGate_9 : decode cX7_tellsGate 9 = .ok (.iaload, 1) := by decide +kernel
theorem dX7_tellsGate_10 : decode cX7_tellsGate 10 = .ok (.aload_n 0, 1) := by decide +kernel
theorem dX7_tellsGate_11 : decode cX7_tellsGate 11 = .ok (.getfield 13, 3) := by decide +kernel
theorem dX7_tellsGate_14 : decode cX7_tellsGate 14 = .ok (.iload_n 1, 1) := by decide +kernel
theorem dX7_tellsGate_15 : decode cX7_tellsGate 15 = .ok (.laload, 1) := by decide +kernel
theorem dX7_tellsGate_16 : decode cX7_tellsGate 16 = .ok (.invokevirtual 203, 3) := by decide +kernel
theorem dX7_tellsGate_19 : decode cX7_tellsGate 19 = .ok (.ifCond .ne 7, 3) := by decide +kernel
theorem dX7_tellsGate_22 : decode cX7_tellsGate 22 = .ok (.iconst 1, 1) := by decide +kernel
theorem dX7_tellsGate_23 : decode cX7_tellsGate 23 = .ok (.goto 4, 3) := by decide +kernel
theorem dX7_tellsGate_26 : decode cX7_tellsGate 26 = .ok (.iconst 0, 1) := by decide +kernel
theorem dX7_tellsGate_27 : decode cX7_tellsGate 27 = .ok (.ireturn, 1) := by decide +kernel
theorem dX7_findLeast_0 : decode cX7_findLeast 0 = .ok (.aload_n 0, 1) := by decide +kernel
theorem dX7_findLeast_1 : decode cX7_findLeast 1 = .ok (.iload_n 1, 1) := by decide +kernel
theorem dX7_findLeast_2 : decode cX7_findLeast 2 = .ok (.invokevirtual 112, 3) := by decide +kernel
theorem dX7_findLeast_5 : decode cX7_findLeast 5 = .ok (.ifCond .eq 29, 3) := by decide +kernel
theorem dX7_findLeast_8 : decode cX7_findLeast 8 = .ok (.aload_n 0, 1) := by decide +kernel
theorem dX7_findLeast_9 : decode cX7_findLeast 9 = .ok (.getfield 27, 3) := by decide +kernel
theorem dX7_findLeast_12 : decode cX7_findLeast 12 = .ok (.aload_n 0, 1) := by decide +kernel
theorem dX7_findLeast_13 : decode cX7_findLeast 13 = .ok (.getfield 9, 3) := by decide +kernel
theorem dX7_findLeast_16 : decode cX7_findLeast 16 = .ok (.iload_n 1, 1) := by decide +kernel
theorem dX7_findLeast_17 : decode cX7_findLeast 17 = .ok (.iaload, 1) := by decide +kernel
theorem dX7_findLeast_18 : decode cX7_findLeast 18 = .ok (.aload_n 0, 1) := by decide +kernel
theorem dX7_findLeast_19 : decode cX7_findLeast 19 = .ok (.getfield 13, 3) := by decide +kernel
theorem dX7_findLeast_22 : decode cX7_findLeast 22 = .ok (.iload_n 1, 1) := by decide +kernel
theorem dX7_findLeast_23 : decode cX7_findLeast 23 = .ok (.laload, 1) := by decide +kernel
theorem dX7_findLeast_24 : decode cX7_findLeast 24 = .ok (.invokevirtual 206, 3) := by decide +kernel
theorem dX7_findLeast_27 : decode cX7_findLeast 27 = .ok (.ifCond .eq 7, 3) := by decide +kernel
theorem dX7_findLeast_30 : decode cX7_findLeast 30 = .ok (.iconst 1, 1) := by decide +kernel
theorem dX7_findLeast_31 : decode cX7_findLeast 31 = .ok (.goto 4, 3) := by decide +kernel
theorem dX7_findLeast_34 : decode cX7_findLeast 34 = .ok (.iconst 0, 1) := by decide +kernel
theorem dX7_findLeast_35 : decode cX7_findLeast 35 = .ok (.ireturn, 1) := by decide +kernel
theorem dX8_init_0 : decode cX8_init 0 = .ok (.aload_n 0, 1) := by decide +kernel
theorem dX8_init_1 : decode cX8_init 1 = .ok (.invokespecial 1, 3) := by decide +kernel
theorem dX8_init_4 : decode cX8_init 4 = .ok (.aload_n 0, 1) := by decide +kernel
theorem dX8_init_5 : decode cX8_init 5 = .ok (.bipush 8, 2) := by decide +kernel
theorem dX8_init_7 : decode cX8_init 7 = .ok (.newarray .int, 2) := by decide +kernel
theorem dX8_init_9 : decode cX8_init 9 = .ok (.putfield 7, 3) := by decide +kernel
theorem dX8_init_12 : decode cX8_init 12 = .ok (.aload_n 0, 1) := by decide +kernel
theorem dX8_init_13 : decode cX8_init 13 = .ok (.bipush 8, 2) := by decide +kernel
theorem dX8_init_15 : decode cX8_init 15 = .ok (.newarray .long, 2) := by decide +kernel
theorem dX8_init_17 : decode cX8_init 17 = .ok (.putfield 13, 3) := by decide +kernel
theorem dX8_init_20 : decode cX8_init 20 = .ok (.aload_n 0, 1) := by decide +kernel
theorem dX8_init_21 : decode cX8_init 21 = .ok (.bipush 32, 2) := by decide +kernel
theorem dX8_init_23 : decode cX8_init 23 = .ok (.newarray .int, 2) := by decide +kernel
theorem dX8_init_25 : decode cX8_init 25 = .ok (.putfield 17, 3) := by decide +kernel
theorem dX8_init_28 : decode cX8_init 28 = .ok (.aload_n 0, 1) := by decide +kernel
theorem dX8_init_29 : decode cX8_init 29 = .ok (.sipush 243, 3) := by decide +kernel
theorem dX8_init_32 : decode cX8_init 32 = .ok (.newarray .boolean, 2) := by decide +kernel
theorem dX8_init_34 : decode cX8_init 34 = .ok (.putfield 20, 3) := by decide +kernel
theorem dX8_init_37 : decode cX8_init 37 = .ok (.aload_n 0, 1) := by decide +kernel
theorem dX8_init_38 : decode cX8_init 38 = .ok (.iconst 4, 1) := by decide +kernel
theorem dX8_init_39 : decode cX8_init 39 = .ok (.newarray .int, 2) := by decide +kernel
theorem dX8_init_41 : decode cX8_init 41 = .ok (.putfield 24, 3) := by decide +kernel
theorem dX8_init_44 : decode cX8_init 44 = .ok (.aload_n 0, 1) := by decide +kernel
theorem dX8_init_45 : decode cX8_init 45 = .ok (.ldc2_w 27, 3) := by decide +kernel
theorem dX8_init_48 : decode cX8_init 48 = .ok (.putfield 29, 3) := by decide +kernel
theorem dX8_init_51 : decode cX8_init 51 = .ok (.aload_n 0, 1) := by decide +kernel
theorem dX8_init_52 : decode cX8_init 52 = .ok (.iconst 5, 1) := by decide +kernel
theorem dX8_init_53 : decode cX8_init 53 = .ok (.newarray .int, 2) := by decide +kernel
theorem dX8_init_55 : decode cX8_init 55 = .ok (.putfield 33, 3) := by decide +kernel
theorem dX8_init_58 : decode cX8_init 58 = .ok (.aload_n 0, 1) := by decide +kernel
theorem dX8_init_59 : decode cX8_init 59 = .ok (.iconst 5, 1) := by decide +kernel
theorem dX8_init_60 : decode cX8_init 60 = .ok (.newarray .int, 2) := by decide +kernel
theorem dX8_init_62 : decode cX8_init 62 = .ok (.putfield 36, 3) := by decide +kernel
theorem dX8_init_65 : decode cX8_init 65 = .ok (.aload_n 0, 1) := by decide +kernel
theorem dX8_init_66 : decode cX8_init 66 = .ok (.iconst 4, 1) := by decide +kernel
theorem dX8_init_67 : decode cX8_init 67 = .ok (.newarray .int, 2) := by decide +kernel
theorem dX8_init_69 : decode cX8_init 69 = .ok (.putfield 39, 3) := by decide +kernel
theorem dX8_init_72 : decode cX8_init 72 = .ok (.aload_n 0, 1) := by decide +kernel
theorem dX8_init_73 : decode cX8_init 73 = .ok (.ldc 42, 2) := by decide +kernel
theorem dX8_init_75 : decode cX8_init 75 = .ok (.newarray .int, 2) := by decide +kernel
theorem dX8_init_77 : decode cX8_init 77 = .ok (.putfield 43, 3) := by decide +kernel
theorem dX8_init_80 : decode cX8_init 80 = .ok (.aload_n 0, 1) := by decide +kernel
theorem dX8_init_81 : decode cX8_init 81 = .ok (.iconst 5, 1) := by decide +kernel
theorem dX8_init_82 : decode cX8_init 82 = .ok (.newarray .int, 2) := by decide +kernel
theorem dX8_init_84 : decode cX8_init 84 = .ok (.putfield 46, 3) := by decide +kernel
theorem dX8_init_87 : decode cX8_init 87 = .ok (.aload_n 0, 1) := by decide +kernel
theorem dX8_init_88 : decode cX8_init 88 = .ok (.bipush 8, 2) := by decide +kernel
theorem dX8_init_90 : decode cX8_init 90 = .ok (.newarray .int, 2) := by decide +kernel
theorem dX8_init_92 : decode cX8_init 92 = .ok (.putfield 49, 3) := by decide +kernel
theorem dX8_init_95 : decode cX8_init 95 = .ok (.aload_n 0, 1) := by decide +kernel
theorem dX8_init_96 : decode cX8_init 96 = .ok (.sipush 256, 3) := by decide +kernel
theorem dX8_init_99 : decode cX8_init 99 = .ok (.newarray .int, 2) := by decide +kernel
theorem dX8_init_101 : decode cX8_init 101 = .ok (.putfield 52, 3) := by decide +kernel
theorem dX8_init_104 : decode cX8_init 104 = .ok (.aload_n 0, 1) := by decide +kernel
theorem dX8_init_105 : decode cX8_init 105 = .ok (.iconst 1, 1) := by decide +kernel
theorem dX8_init_106 : decode cX8_init 106 = .ok (.putfield 55, 3) := by decide +kernel
theorem dX8_init_109 : decode cX8_init 109 = .ok (.aload_n 0, 1) := by decide +kernel
theorem dX8_init_110 : decode cX8_init 110 = .ok (.bipush 12, 2) := by decide +kernel
theorem dX8_init_112 : decode cX8_init 112 = .ok (.newarray .int, 2) := by decide +kernel
theorem dX8_init_114 : decode cX8_init 114 = .ok (.putfield 59, 3) := by decide +kernel
theorem dX8_init_117 : decode cX8_init 117 = .ok (.aload_n 0, 1) := by decide +kernel
theorem dX8_init_118 : decode cX8_init 118 = .ok (.bipush 96, 2) := by decide +kernel
theorem dX8_init_120 : decode cX8_init 120 = .ok (.newarray .int, 2) := by decide +kernel
theorem dX8_init_122 : decode cX8_init 122 = .ok (.putfield 62, 3) := by decide +kernel
theorem dX8_init_125 : decode cX8_init 125 = .ok (.aload_n 0, 1) := by decide +kernel
theorem dX8_init_126 : decode cX8_init 126 = .ok (.bipush 8, 2) := by decide +kernel
theorem dX8_init_128 : decode cX8_init 128 = .ok (.newarray .int, 2) := by decide +kernel
theorem dX8_init_130 : decode cX8_init 130 = .ok (.putfield 65, 3) := by decide +kernel
theorem dX8_init_133 : decode cX8_init 133 = .ok (.aload_n 0, 1) := by decide +kernel
theorem dX8_init_134 : decode cX8_init 134 = .ok (.bipush 8, 2) := by decide +kernel
theorem dX8_init_136 : decode cX8_init 136 = .ok (.newarray .int, 2) := by decide +kernel
theorem dX8_init_138 : decode cX8_init 138 = .ok (.putfield 68, 3) := by decide +kernel
theorem dX8_init_141 : decode cX8_init 141 = .ok (.aload_n 0, 1) := by decide +kernel
theorem dX8_init_142 : decode cX8_init 142 = .ok (.bipush 8, 2) := by decide +kernel
theorem dX8_init_144 : decode cX8_init 144 = .ok (.newarray .int, 2) := by decide +kernel
theorem dX8_init_146 : decode cX8_init 146 = .ok (.putfield 71, 3) := by decide +kernel
theorem dX8_init_149 : decode cX8_init 149 = .ok (.iconst 0, 1) := by decide +kernel
theorem dX8_init_150 : decode cX8_init 150 = .ok (.istore_n 1, 1) := by decide +kernel
theorem dX8_init_151 : decode cX8_init 151 = .ok (.iload_n 1, 1) := by decide +kernel
theorem dX8_init_152 : decode cX8_init 152 = .ok (.bipush 8, 2) := by decide +kernel
theorem dX8_init_154 : decode cX8_init 154 = .ok (.if_icmp .ge 16, 3) := by decide +kernel
theorem dX8_init_157 : decode cX8_init 157 = .ok (.aload_n 0, 1) := by decide +kernel
theorem dX8_init_158 : decode cX8_init 158 = .ok (.getfield 7, 3) := by decide +kernel
theorem dX8_init_161 : decode cX8_init 161 = .ok (.iload_n 1, 1) := by decide +kernel
theorem dX8_init_162 : decode cX8_init 162 = .ok (.iconst 1, 1) := by decide +kernel
theorem dX8_init_163 : decode cX8_init 163 = .ok (.iastore, 1) := by decide +kernel
theorem dX8_init_164 : decode cX8_init 164 = .ok (.iinc 1 1, 3) := by decide +kernel
theorem dX8_init_167 : decode cX8_init 167 = .ok (.goto (-16), 3) := by decide +kernel
theorem dX8_init_170 : decode cX8_init 170 = .ok (.iconst 0, 1) := by decide +kernel
theorem dX8_init_171 : decode cX8_init 171 = .ok (.istore_n 1, 1) := by decide +kernel
theorem dX8_init_172 : decode cX8_init 172 = .ok (.iload_n 1, 1) := by decide +kernel
theorem dX8_init_173 : decode cX8_init 173 = .ok (.sipush 256, 3) := by decide +kernel
theorem dX8_init_176 : decode cX8_init 176 = .ok (.if_icmp .ge 17, 3) := by decide +kernel
theorem dX8_init_179 : decode cX8_init 179 = .ok (.aload_n 0, 1) := by decide +kernel
theorem dX8_init_180 : decode cX8_init 180 = .ok (.getfield 52, 3) := by decide +kernel
theorem dX8_init_183 : decode cX8_init 183 = .ok (.iload_n 1, 1) := by decide +kernel
theorem dX8_init_184 : decode cX8_init 184 = .ok (.bipush (-2), 2) := by decide +kernel
theorem dX8_init_186 : decode cX8_init 186 = .ok (.iastore, 1) := by decide +kernel
theorem dX8_init_187 : decode cX8_init 187 = .ok (.iinc 1 1, 3) := by decide +kernel
theorem dX8_init_190 : decode cX8_init 190 = .ok (.goto (-18), 3) := by decide +kernel
theorem dX8_init_193 : decode cX8_init 193 = .ok (.return_, 1) := by decide +kernel
theorem dX8_in_0 : decode cX8_in 0 = .ok (.lload_n 0, 1) := by decide +kernel
theorem dX8_in_1 : decode cX8_in 1 = .ok (.lload_n 2, 1) := by decide +kernel
theorem dX8_in_2 : decode cX8_in 2 = .ok (.lcmp, 1) := by decide +kernel
theorem dX8_in_3 : decode cX8_in 3 = .ok (.ifCond .lt 14, 3) := by decide +kernel
theorem dX8_in_6 : decode cX8_in 6 = .ok (.lload_n 0, 1) := by decide +kernel
theorem dX8_in_7 : decode cX8_in 7 = .ok (.lload 4, 2) := by decide +kernel
theorem dX8_in_9 : decode cX8_in 9 = .ok (.lcmp, 1) := by decide +kernel
theorem dX8_in_10 : decode cX8_in 10 = .ok (.ifCond .gt 7, 3) := by decide +kernel
theorem dX8_in_13 : decode cX8_in 13 = .ok (.iconst 1, 1) := by decide +kernel
theorem dX8_in_14 : decode cX8_in 14 = .ok (.goto 4, 3) := by decide +kernel
theorem dX8_in_17 : decode cX8_in 17 = .ok (.iconst 0, 1) := by decide +kernel
theorem dX8_in_18 : decode cX8_in 18 = .ok (.ireturn, 1) := by decide +kernel
theorem dX8_isSlot_0 : decode cX8_isSlot 0 = .ok (.iload_n 0, 1) := by decide +kernel
theorem dX8_isSlot_1 : decode cX8_isSlot 1 = .ok (.i2l, 1) := by decide +kernel
theorem dX8_isSlot_2 : decode cX8_isSlot 2 = .ok (.lconst 0, 1) := by decide +kernel
theorem dX8_isSlot_3 : decode cX8_isSlot 3 = .ok (.ldc2_w 74, 3) := by decide +kernel
theorem dX8_isSlot_6 : decode cX8_isSlot 6 = .ok (.invokestatic 76, 3) := by decide +kernel
theorem dX8_isSlot_9 : decode cX8_isSlot 9 = .ok (.ireturn, 1) := by decide +kernel
theorem dX8_isInput_0 : decode cX8_isInput 0 = .ok (.iload_n 2, 1) := by decide +kernel
theorem dX8_isInput_1 : decode cX8_isInput 1 = .ok (.i2l, 1) := by decide +kernel
theorem dX8_isInput_2 : decode cX8_isInput 2 = .ok (.lconst 0, 1) := by decide +kernel
theorem dX8_isInput_3 : decode cX8_isInput 3 = .ok (.aload_n 0, 1) := by decide +kernel
theorem dX8_isInput_4 : decode cX8_isInput 4 = .ok (.getfield 7, 3) := by decide +kernel
theorem dX8_isInput_7 : decode cX8_isInput 7 = .ok (.iload_n 1, 1) := by decide +kernel
theorem dX8_isInput_8 : decode cX8_isInput 8 = .ok (.iaload, 1) := by decide +kernel
theorem dX8_isInput_9 : decode cX8_isInput 9 = .ok (.iconst 1, 1) := by decide +kernel
theorem dX8_isInput_10 : decode cX8_isInput 10 = .ok (.isub, 1) := by decide +kernel
theorem dX8_isInput_11 : decode cX8_isInput 11 = .ok (.i2l, 1) := by decide +kernel
theorem dX8_isInput_12 : decode cX8_isInput 12 = .ok (.invokestatic 76, 3) := by decide +kernel
theorem dX8_isInput_15 : decode cX8_isInput 15 = .ok (.ireturn, 1) := by decide +kernel
theorem dX8_whole_0 : decode cX8_whole 0 = .ok (.lconst 1, 1) := by decide +kernel
theorem dX8_whole_1 : decode cX8_whole 1 = .ok (.iconst 1, 1) := by decide +kernel
theorem dX8_whole_2 : decode cX8_whole 2 = .ok (.iload_n 0, 1) := by decide +kernel
theorem dX8_whole_3 : decode cX8_whole 3 = .ok (.ishl, 1) := by decide +kernel
theorem dX8_whole_4 : decode cX8_whole 4 = .ok (.lshl, 1) := by decide +kernel
theorem dX8_whole_5 : decode cX8_whole 5 = .ok (.lconst 1, 1) := by decide +kernel
theorem dX8_whole_6 : decode cX8_whole 6 = .ok (.lsub, 1) := by decide +kernel
theorem dX8_whole_7 : decode cX8_whole 7 = .ok (.lreturn, 1) := by decide +kernel
theorem dX8_is_0 : decode cX8_is 0 = .ok (.lload_n 0, 1) := by decide +kernel
theorem dX8_is_1 : decode cX8_is 1 = .ok (.iload_n 2, 1) := by decide +kernel
theorem dX8_is_2 : decode cX8_is 2 = .ok (.lshr, 1) := by decide +kernel
theorem dX8_is_3 : decode cX8_is 3 = .ok (.lconst 1, 1) := by decide +kernel
theorem dX8_is_4 : decode cX8_is 4 = .ok (.land, 1) := by decide +kernel
theorem dX8_is_5 : decode cX8_is 5 = .ok (.lconst 1, 1) := by decide +kernel
theorem dX8_is_6 : decode cX8_is 6 = .ok (.lcmp, 1) := by decide +kernel
theorem dX8_is_7 : decode cX8_is 7 = .ok (.ifCond .ne 7, 3) := by decide +kernel
theorem dX8_is_10 : decode cX8_is 10 = .ok (.iconst 1, 1) := by decide +kernel
theorem dX8_is_11 : decode cX8_is 11 = .ok (.goto 4, 3) := by decide +kernel
theorem dX8_is_14 : decode cX8_is 14 = .ok (.iconst 0, 1) := by decide +kernel
theorem dX8_is_15 : decode cX8_is 15 = .ok (.ireturn, 1) := by decide +kernel
theorem dX8_ones_0 : decode cX8_ones 0 = .ok (.iconst 0, 1) := by decide +kernel
theorem dX8_ones_1 : decode cX8_ones 1 = .ok (.istore_n 2, 1) := by decide +kernel
theorem dX8_ones_2 : decode cX8_ones 2 = .ok (.iconst 0, 1) := by decide +kernel
theorem dX8_ones_3 : decode cX8_ones 3 = .ok (.istore_n 3, 1) := by decide +kernel
theorem dX8_ones_4 : decode cX8_ones 4 = .ok (.iload_n 3, 1) := by decide +kernel
theorem dX8_ones_5 : decode cX8_ones 5 = .ok (.bipush 32, 2) := by decide +kernel
theorem dX8_ones_7 : decode cX8_ones 7 = .ok (.if_icmp .ge 25, 3) := by decide +kernel
theorem dX8_ones_10 : decode cX8_ones 10 = .ok (.iload_n 2, 1) := by decide +kernel
theorem dX8_ones_11 : decode cX8_ones 11 = .ok (.lload_n 0, 1) := by decide +kernel
theorem dX8_ones_12 : decode cX8_ones 12 = .ok (.iload_n 3, 1) := by decide +kernel
theorem dX8_ones_13 : decode cX8_ones 13 = .ok (.invokestatic 80, 3) := by decide +kernel
theorem dX8_ones_16 : decode cX8_ones 16 = .ok (.ifCond .eq 7, 3) := by decide +kernel
theorem dX8_ones_19 : decode cX8_ones 19 = .ok (.iconst 1, 1) := by decide +kernel
theorem dX8_ones_20 : decode cX8_ones 20 = .ok (.goto 4, 3) := by decide +kernel
theorem dX8_ones_23 : decode cX8_ones 23 = .ok (.iconst 0, 1) := by decide +kernel
theorem dX8_ones_24 : decode cX8_ones 24 = .ok (.iadd, 1) := by decide +kernel
theorem dX8_ones_25 : decode cX8_ones 25 = .ok (.istore_n 2, 1) := by decide +kernel
theorem dX8_ones_26 : decode cX8_ones 26 = .ok (.iinc 3 1, 3) := by decide +kernel
theorem dX8_ones_29 : decode cX8_ones 29 = .ok (.goto (-25), 3) := by decide +kernel
theorem dX8_ones_32 : decode cX8_ones 32 = .ok (.iload_n 2, 1) := by decide +kernel
theorem dX8_ones_33 : decode cX8_ones 33 = .ok (.ireturn, 1) := by decide +kernel
theorem dX8_set_0 : decode cX8_set 0 = .ok (.aload_n 0, 1) := by decide +kernel
theorem dX8_set_1 : decode cX8_set 1 = .ok (.getfield 7, 3) := by decide +kernel
theorem dX8_set_4 : decode cX8_set 4 = .ok (.iload_n 1, 1) := by decide +kernel
theorem dX8_set_5 : decode cX8_set 5 = .ok (.iload_n 2, 1) := by decide +kernel
theorem dX8_set_6 : decode cX8_set 6 = .ok (.iastore, 1) := by decide +kernel
theorem dX8_set_7 : decode cX8_set 7 = .ok (.aload_n 0, 1) := by decide +kernel
theorem dX8_set_8 : decode cX8_set 8 = .ok (.getfield 13, 3) := by decide +kernel
theorem dX8_set_11 : decode cX8_set 11 = .ok (.iload_n 1, 1) := by decide +kernel
theorem dX8_set_12 : decode cX8_set 12 = .ok (.lload_n 3, 1) := by decide +kernel
theorem dX8_set_13 : decode cX8_set 13 = .ok (.lastore, 1) := by decide +kernel
theorem dX8_set_14 : decode cX8_set 14 = .ok (.lload_n 3, 1) := by decide +kernel
theorem dX8_set_15 : decode cX8_set 15 = .ok (.invokestatic 84, 3) := by decide +kernel
theorem dX8_set_18 : decode cX8_set 18 = .ok (.ireturn, 1) := by decide +kernel
theorem dX8_table_0 : decode cX8_table 0 = .ok (.iload_n 1, 1) := by decide +kernel
theorem dX8_table_1 : decode cX8_table 1 = .ok (.invokestatic 88, 3) := by decide +kernel
theorem dX8_table_4 : decode cX8_table 4 = .ok (.ifCond .ne 5, 3) := by decide +kernel
theorem dX8_table_7 : decode cX8_table 7 = .ok (.iconst (-1), 1) := by decide +kernel
theorem dX8_table_8 : decode cX8_table 8 = .ok (.ireturn, 1) := by decide +kernel
theorem dX8_table_9 : decode cX8_table 9 = .ok (.iload_n 2, 1) := by decide +kernel
theorem dX8_table_10 : decode cX8_table 10 = .ok (.i2l, 1) := by decide +kernel
theorem dX8_table_11 : decode cX8_table 11 = .ok (.lconst 1, 1) := by decide +kernel
theorem dX8_table_12 : decode cX8_table 12 = .ok (.ldc2_w 92, 3) := by decide +kernel
theorem dX8_table_15 : decode cX8_table 15 = .ok (.invokestatic 76, 3) := by decide +kernel
theorem dX8_table_18 : decode cX8_table 18 = .ok (.ifCond .eq 15, 3) := by decide +kernel
theorem dX8_table_21 : decode cX8_table 21 = .ok (.lload_n 3, 1) := by decide +kernel
theorem dX8_table_22 : decode cX8_table 22 = .ok (.lconst 0, 1) := by decide +kernel
theorem dX8_table_23 : decode cX8_table 23 = .ok (.iload_n 2, 1) := by decide +kernel
theorem dX8_table_24 : decode cX8_table 24 = .ok (.invokestatic 94, 3) := by decide +kernel
theorem dX8_table_27 : decode cX8_table 27 = .ok (.invokestatic 76, 3) := by decide +kernel
theorem dX8_table_30 : decode cX8_table 30 = .ok (.ifCond .ne 6, 3) := by decide +kernel
theorem dX8_table_33 : decode cX8_table 33 = .ok (.bipush (-2), 2) := by decide +kernel
theorem dX8_table_35 : decode cX8_table 35 = .ok (.ireturn, 1) := by decide +kernel
theorem dX8_table_36 : decode cX8_table 36 = .ok (.aload_n 0, 1) := by decide +kernel
theorem dX8_table_37 : decode cX8_table 37 = .ok (.iload_n 1, 1) := by decide +kernel
theorem dX8_table_38 : decode cX8_table 38 = .ok (.iload_n 2, 1) := by decide +kernel
theorem dX8_table_39 : decode cX8_table 39 = .ok (.lload_n 3, 1) := by decide +kernel
theorem dX8_table_40 : decode cX8_table 40 = .ok (.invokevirtual 98, 3) := by decide +kernel
theorem dX8_table_43 : decode cX8_table 43 = .ok (.ireturn, 1) := by decide +kernel
theorem dX8_weigh_0 : decode cX8_weigh 0 = .ok (.iload_n 1, 1) := by decide +kernel
theorem dX8_weigh_1 : decode cX8_weigh 1 = .ok (.invokestatic 88, 3) := by decide +kernel
theorem dX8_weigh_4 : decode cX8_weigh 4 = .ok (.ifCond .ne 7, 3) := by decide +kernel
theorem dX8_weigh_7 : decode cX8_weigh 7 = .ok (.ldc2_w 27, 3) := by decide +kernel
theorem dX8_weigh_10 : decode cX8_weigh 10 = .ok (.lreturn, 1) := by decide +kernel
theorem dX8_weigh_11 : decode cX8_weigh 11 = .ok (.iload_n 2, 1) := by decide +kernel
theorem dX8_weigh_12 : decode cX8_weigh 12 = .ok (.i2l, 1) := by decide +kernel
theorem dX8_weigh_13 : decode cX8_weigh 13 = .ok (.lconst 1, 1) := by decide +kernel
theorem dX8_weigh_14 : decode cX8_weigh 14 = .ok (.ldc2_w 92, 3) := by decide +kernel
theorem dX8_weigh_17 : decode cX8_weigh 17 = .ok (.invokestatic 76, 3) := by decide +kernel
theorem dX8_weigh_20 : decode cX8_weigh 20 = .ok (.ifCond .eq 29, 3) := by decide +kernel
theorem dX8_weigh_23 : decode cX8_weigh 23 = .ok (.lload_n 3, 1) := by decide +kernel
theorem dX8_weigh_24 : decode cX8_weigh 24 = .ok (.lconst 0, 1) := by decide +kernel
theorem dX8_weigh_25 : decode cX8_weigh 25 = .ok (.ldc2_w 102, 3) := by decide +kernel
theorem dX8_weigh_28 : decode cX8_weigh 28 = .ok (.invokestatic 76, 3) := by decide +kernel
theorem dX8_weigh_31 : decode cX8_weigh 31 = .ok (.ifCond .eq 18, 3) := by decide +kernel
theorem dX8_weigh_34 : decode cX8_weigh 34 = .ok (.iload 5, 2) := by decide +kernel
theorem dX8_weigh_36 : decode cX8_weigh 36 = .ok (.i2l, 1) := by decide +kernel
theorem dX8_weigh_37 : decode cX8_weigh 37 = .ok (.ldc2_w 104, 3) := by decide +kernel
theorem dX8_weigh_40 : decode cX8_weigh 40 = .ok (.ldc2_w 106, 3) := by decide +kernel
theorem dX8_weigh_43 : decode cX8_weigh 43 = .ok (.invokestatic 76, 3) := by decide +kernel
theorem dX8_weigh_46 : decode cX8_weigh 46 = .ok (.ifCond .ne 7, 3) := by decide +kernel
theorem dX8_weigh_49 : decode cX8_weigh 49 = .ok (.ldc2_w 108, 3) := by decide +kernel
theorem dX8_weigh_52 : decode cX8_weigh 52 = .ok (.lreturn, 1) := by decide +kernel
theorem dX8_weigh_53 : decode cX8_weigh 53 = .ok (.lconst 0, 1) := by decide +kernel
theorem dX8_weigh_54 : decode cX8_weigh 54 = .ok (.lstore 6, 2) := by decide +kernel
theorem dX8_weigh_56 : decode cX8_weigh 56 = .ok (.iconst 0, 1) := by decide +kernel
theorem dX8_weigh_57 : decode cX8_weigh 57 = .ok (.istore 8, 2) := by decide +kernel
theorem dX8_weigh_59 : decode cX8_weigh 59 = .ok (.iload 8, 2) := by decide +kernel
theorem dX8_weigh_61 : decode cX8_weigh 61 = .ok (.iconst 1, 1) := by decide +kernel
theorem dX8_weigh_62 : decode cX8_weigh 62 = .ok (.iload_n 2, 1) := by decide +kernel
theorem dX8_weigh_63 : decode cX8_weigh 63 = .ok (.ishl, 1) := by decide +kernel
theorem dX8_weigh_64 : decode cX8_weigh 64 = .ok (.if_icmp .ge 88, 3) := by decide +kernel
theorem dX8_weigh_67 : decode cX8_weigh 67 = .ok (.lload_n 3, 1) := by decide +kernel
theorem dX8_weigh_68 : decode cX8_weigh 68 = .ok (.lstore 9, 2) := by decide +kernel
theorem dX8_weigh_70 : decode cX8_weigh 70 = .ok (.iconst 0, 1) := by decide +kernel
theorem dX8_weigh_71 : decode cX8_weigh 71 = .ok (.istore 11, 2) := by decide +kernel
theorem dX8_weigh_73 : decode cX8_weigh 73 = .ok (.iconst 0, 1) := by decide +kernel
theorem dX8_weigh_74 : decode cX8_weigh 74 = .ok (.istore 12, 2) := by decide +kernel
theorem dX8_weigh_76 : decode cX8_weigh 76 = .ok (.iload 12, 2) := by decide +kernel
theorem dX8_weigh_78 : decode cX8_weigh 78 = .ok (.iload_n 2, 1) := by decide +kernel
theorem dX8_weigh_79 : decode cX8_weigh 79 = .ok (.if_icmp .ge 47, 3) := by decide +kernel
theorem dX8_weigh_82 : decode cX8_weigh 82 = .ok (.iload 11, 2) := by decide +kernel
theorem dX8_weigh_84 : decode cX8_weigh 84 = .ok (.iload 8, 2) := by decide +kernel
theorem dX8_weigh_86 : decode cX8_weigh 86 = .ok (.iload 12, 2) := by decide +kernel
theorem dX8_weigh_88 : decode cX8_weigh 88 = .ok (.ishr, 1) := by decide +kernel
theorem dX8_weigh_89 : decode cX8_weigh 89 = .ok (.iconst 1, 1) := by decide +kernel
theorem dX8_weigh_90 : decode cX8_weigh 90 = .ok (.iand, 1) := by decide +kernel
theorem dX8_weigh_91 : decode cX8_weigh 91 = .ok (.iconst 1, 1) := by decide +kernel
theorem dX8_weigh_92 : decode cX8_weigh 92 = .ok (.if_icmp .ne 16, 3) := by decide +kernel
theorem dX8_weigh_95 : decode cX8_weigh 95 = .ok (.lload 9, 2) := by decide +kernel
theorem dX8_weigh_97 : decode cX8_weigh 97 = .ok (.ldc2_w 110, 3) := by decide +kernel
theorem dX8_weigh_100 : decode cX8_weigh 100 = .ok (.lrem, 1) := by decide +kernel
theorem dX8_weigh_101 : decode cX8_weigh 101 = .ok (.l2i, 1) := by decide +kernel
theorem dX8_weigh_102 : decode cX8_weigh 102 = .ok (.bipush 50, 2) := by decide +kernel
theorem dX8_weigh_104 : decode cX8_weigh 104 = .ok (.isub, 1) := by decide +kernel
theorem dX8_weigh_105 : decode cX8_weigh 105 = .ok (.goto 4, 3) := by decide +kernel
theorem dX8_weigh_108 : decode cX8_weigh 108 = .ok (.iconst 0, 1) := by decide +kernel
theorem dX8_weigh_109 : decode cX8_weigh 109 = .ok (.iadd, 1) := by decide +kernel
theorem dX8_weigh_110 : decode cX8_weigh 110 = .ok (.istore 11, 2) := by decide +kernel
theorem dX8_weigh_112 : decode cX8_weigh 112 = .ok (.lload 9, 2) := by decide +kernel
theorem dX8_weigh_114 : decode cX8_weigh 114 = .ok (.ldc2_w 110, 3) := by decide +kernel
theorem dX8_weigh_117 : decode cX8_weigh 117 = .ok (.ldiv, 1) := by decide +kernel
theorem dX8_weigh_118 : decode cX8_weigh 118 = .ok (.lstore 9, 2) := by decide +kernel
theorem dX8_weigh_120 : decode cX8_weigh 120 = .ok (.iinc 12 1, 3) := by decide +kernel
theorem dX8_weigh_123 : decode cX8_weigh 123 = .ok (.goto (-47), 3) := by decide +kernel
theorem dX8_weigh_126 : decode cX8_weigh 126 = .ok (.lload 6, 2) := by decide +kernel
theorem dX8_weigh_128 : decode cX8_weigh 128 = .ok (.iload 11, 2) := by decide +kernel
theorem dX8_weigh_130 : decode cX8_weigh 130 = .ok (.iload 5, 2) := by decide +kernel
theorem dX8_weigh_132 : decode cX8_weigh 132 = .ok (.if_icmp .lt 10, 3) := by decide +kernel
theorem dX8_weigh_135 : decode cX8_weigh 135 = .ok (.lconst 1, 1) := by decide +kernel
theorem dX8_weigh_136 : decode cX8_weigh 136 = .ok (.iload 8, 2) := by decide +kernel
theorem dX8_weigh_138 : decode cX8_weigh 138 = .ok (.lshl, 1) := by decide +kernel
theorem dX8_weigh_139 : decode cX8_weigh 139 = .ok (.goto 4, 3) := by decide +kernel
theorem dX8_weigh_142 : decode cX8_weigh 142 = .ok (.lconst 0, 1) := by decide +kernel
theorem dX8_weigh_143 : decode cX8_weigh 143 = .ok (.lor, 1) := by decide +kernel
theorem dX8_weigh_144 : decode cX8_weigh 144 = .ok (.lstore 6, 2) := by decide +kernel
theorem dX8_weigh_146 : decode cX8_weigh 146 = .ok (.iinc 8 1, 3) := by decide +kernel
theorem dX8_weigh_149 : decode cX8_weigh 149 = .ok (.goto (-90), 3) := by decide +kernel
theorem dX8_weigh_152 : decode cX8_weigh 152 = .ok (.aload_n 0, 1) := by decide +kernel
theorem dX8_weigh_153 : decode cX8_weigh 153 = .ok (.iload_n 1, 1) := by decide +kernel
theorem dX8_weigh_154 : decode cX8_weigh 154 = .ok (.iload_n 2, 1) := by decide +kernel
theorem dX8_weigh_155 : decode cX8_weigh 155 = .ok (.lload 6, 2) := by decide +kernel
theorem dX8_weigh_157 : decode cX8_weigh 157 = .ok (.invokevirtual 98, 3) := by decide +kernel
theorem dX8_weigh_160 : decode cX8_weigh 160 = .ok (.istore 8, 2) := by decide +kernel
theorem dX8_weigh_162 : decode cX8_weigh 162 = .ok (.lload 6, 2) := by decide +kernel
theorem dX8_weigh_164 : decode cX8_weigh 164 = .ok (.lreturn, 1) := by decide +kernel
theorem dX8_bits_0 : decode cX8_bits 0 = .ok (.iload_n 1, 1) := by decide +kernel
theorem dX8_bits_1 : decode cX8_bits 1 = .ok (.invokestatic 88, 3) := by decide +kernel
theorem dX8_bits_4 : decode cX8_bits 4 = .ok (.ifCond .eq 12, 3) := by decide +kernel
theorem dX8_bits_7 : decode cX8_bits 7 = .ok (.aload_n 0, 1) := by decide +kernel
theorem dX8_bits_8 : decode cX8_bits 8 = .ok (.getfield 13, 3) := by decide +kernel
theorem dX8_bits_11 : decode cX8_bits 11 = .ok (.iload_n 1, 1) := by decide +kernel
theorem dX8_bits_12 : decode cX8_bits 12 = .ok (.laload, 1) := by decide +kernel
theorem dX8_bits_13 : decode cX8_bits 13 = .ok (.goto 6, 3) := by decide +kernel
theorem dX8_bits_16 : decode cX8_bits 16 = .ok (.ldc2_w 27, 3) := by decide +kernel
theorem dX8_bits_19 : decode cX8_bits 19 = .ok (.lreturn, 1) := by decide +kernel
theorem dX8_inputs_0 : decode cX8_inputs 0 = .ok (.iload_n 1, 1) := by decide +kernel
theorem dX8_inputs_1 : decode cX8_inputs 1 = .ok (.invokestatic 88, 3) := by decide +kernel
theorem dX8_inputs_4 : decode cX8_inputs 4 = .ok (.ifCond .eq 12, 3) := by decide +kernel
theorem dX8_inputs_7 : decode cX8_inputs 7 = .ok (.aload_n 0, 1) := by decide +kernel
theorem dX8_inputs_8 : decode cX8_inputs 8 = .ok (.getfield 7, 3) := by decide +kernel
theorem dX8_inputs_11 : decode cX8_inputs 11 = .ok (.iload_n 1, 1) := by decide +kernel
theorem dX8_inputs_12 : decode cX8_inputs 12 = .ok (.iaload, 1) := by decide +kernel
theorem dX8_inputs_13 : decode cX8_inputs 13 = .ok (.goto 4, 3) := by decide +kernel
theorem dX8_inputs_16 : decode cX8_inputs 16 = .ok (.iconst (-1), 1) := by decide +kernel
theorem dX8_inputs_17 : decode cX8_inputs 17 = .ok (.ireturn, 1) := by decide +kernel
theorem dX8_most_0 : decode cX8_most 0 = .ok (.iload_n 1, 1) := by decide +kernel
theorem dX8_most_1 : decode cX8_most 1 = .ok (.invokestatic 88, 3) := by decide +kernel
theorem dX8_most_4 : decode cX8_most 4 = .ok (.ifCond .eq 25, 3) := by decide +kernel
theorem dX8_most_7 : decode cX8_most 7 = .ok (.iload_n 2, 1) := by decide +kernel
theorem dX8_most_8 : decode cX8_most 8 = .ok (.invokestatic 88, 3) := by decide +kernel
theorem dX8_most_11 : decode cX8_most 11 = .ok (.ifCond .eq 18, 3) := by decide +kernel
theorem dX8_most_14 : decode cX8_most 14 = .ok (.iload_n 3, 1) := by decide +kernel
theorem dX8_most_15 : decode cX8_most 15 = .ok (.invokestatic 88, 3) := by decide +kernel
theorem dX8_most_18 : decode cX8_most 18 = .ok (.ifCond .eq 11, 3) := by decide +kernel
theorem dX8_most_21 : decode cX8_most 21 = .ok (.iload 4, 2) := by decide +kernel
theorem dX8_most_23 : decode cX8_most 23 = .ok (.invokestatic 88, 3) := by decide +kernel
theorem dX8_most_26 : decode cX8_most 26 = .ok (.ifCond .ne 5, 3) := by decide +kernel
theorem dX8_most_29 : decode cX8_most 29 = .ok (.iconst (-1), 1) := by decide +kernel
theorem dX8_most_30 : decode cX8_most 30 = .ok (.ireturn, 1) := by decide +kernel
theorem dX8_most_31 : decode cX8_most 31 = .ok (.aload_n 0, 1) := by decide +kernel
theorem dX8_most_32 : decode cX8_most 32 = .ok (.getfield 7, 3) := by decide +kernel
theorem dX8_most_35 : decode cX8_most 35 = .ok (.iload_n 2, 1) := by decide +kernel
theorem dX8_most_36 : decode cX8_most 36 = .ok (.iaload, 1) := by decide +kernel
theorem dX8_most_37 : decode cX8_most 37 = .ok (.aload_n 0, 1) := by decide +kernel
theorem dX8_most_38 : decode cX8_most 38 = .ok (.getfield 7, 3) := by decide +kernel
theorem dX8_most_41 : decode cX8_most 41 = .ok (.iload_n 3, 1) := by decide +kernel
theorem dX8_most_42 : decode cX8_most 42 = .ok (.iaload, 1) := by decide +kernel
theorem dX8_most_43 : decode cX8_most 43 = .ok (.if_icmp .ne 19, 3) := by decide +kernel
theorem dX8_most_46 : decode cX8_most 46 = .ok (.aload_n 0, 1) := by decide +kernel
theorem dX8_most_47 : decode cX8_most 47 = .ok (.getfield 7, 3) := by decide +kernel
theorem dX8_most_50 : decode cX8_most 50 = .ok (.iload_n 2, 1) := by decide +kernel
theorem dX8_most_51 : decode cX8_most 51 = .ok (.iaload, 1) := by decide +kernel
theorem dX8_most_52 : decode cX8_most 52 = .ok (.aload_n 0, 1) := by decide +kernel
theorem dX8_most_53 : decode cX8_most 53 = .ok (.getfield 7, 3) := by decide +kernel
theorem dX8_most_56 : decode cX8_most 56 = .ok (.iload 4, 2) := by decide +kernel
theorem dX8_most_58 : decode cX8_most 58 = .ok (.iaload, 1) := by decide +kernel
theorem dX8_most_59 : decode cX8_most 59 = .ok (.if_icmp .eq 6, 3) := by decide +kernel
theorem dX8_most_62 : decode cX8_most 62 = .ok (.bipush (-3), 2) := by decide +kernel
theorem dX8_most_64 : decode cX8_most 64 = .ok (.ireturn, 1) := by decide +kernel
theorem dX8_most_65 : decode cX8_most 65 = .ok (.aload_n 0, 1) := by decide +kernel
theorem dX8_most_66 : decode cX8_most 66 = .ok (.iload_n 1, 1) := by decide +kernel
theorem dX8_most_67 : decode cX8_most 67 = .ok (.aload_n 0, 1) := by decide +kernel
theorem dX8_most_68 : decode cX8_most 68 = .ok (.getfield 7, 3) := by decide +kernel
theorem dX8_most_71 : decode cX8_most 71 = .ok (.iload_n 2, 1) := by decide +kernel
theorem dX8_most_72 : decode cX8_most 72 = .ok (.iaload, 1) := by decide +kernel
theorem dX8_most_73 : decode cX8_most 73 = .ok (.aload_n 0, 1) := by decide +kernel
theorem dX8_most_74 : decode cX8_most 74 = .ok (.getfield 13, 3) := by decide +kernel
theorem dX8_most_77 : decode cX8_most 77 = .ok (.iload_n 2, 1) := by decide +kernel
theorem dX8_most_78 : decode cX8_most 78 = .ok (.laload, 1) := by decide +kernel
theorem dX8_most_79 : decode cX8_most 79 = .ok (.aload_n 0, 1) := by decide +kernel
theorem dX8_most_80 : decode cX8_most 80 = .ok (.getfield 13, 3) := by decide +kernel
theorem dX8_most_83 : decode cX8_most 83 = .ok (.iload_n 3, 1) := by decide +kernel
theorem dX8_most_84 : decode cX8_most 84 = .ok (.laload, 1) := by decide +kernel
theorem dX8_most_85 : decode cX8_most 85 = .ok (.land, 1) := by decide +kernel
theorem dX8_most_86 : decode cX8_most 86 = .ok (.aload_n 0, 1) := by decide +kernel
theorem dX8_most_87 : decode cX8_most 87 = .ok (.getfield 13, 3) := by decide +kernel
theorem dX8_most_90 : decode cX8_most 90 = .ok (.iload_n 3, 1) := by decide +kernel
theorem dX8_most_91 : decode cX8_most 91 = .ok (.laload, 1) := by decide +kernel
theorem dX8_most_92 : decode cX8_most 92 = .ok (.aload_n 0, 1) := by decide +kernel
theorem dX8_most_93 : decode cX8_most 93 = .ok (.getfield 13, 3) := by decide +kernel
theorem dX8_most_96 : decode cX8_most 96 = .ok (.iload 4, 2) := by decide +kernel
theorem dX8_most_98 : decode cX8_most 98 = .ok (.laload, 1) := by decide +kernel
theorem dX8_most_99 : decode cX8_most 99 = .ok (.land, 1) := by decide +kernel
theorem dX8_most_100 : decode cX8_most 100 = .ok (.lor, 1) := by decide +kernel
theorem dX8_most_101 : decode cX8_most 101 = .ok (.aload_n 0, 1) := by decide +kernel
theorem dX8_most_102 : decode cX8_most 102 = .ok (.getfield 13, 3) := by decide +kernel
theorem dX8_most_105 : decode cX8_most 105 = .ok (.iload_n 2, 1) := by decide +kernel
theorem dX8_most_106 : decode cX8_most 106 = .ok (.laload, 1) := by decide +kernel
theorem dX8_most_107 : decode cX8_most 107 = .ok (.aload_n 0, 1) := by decide +kernel
theorem dX8_most_108 : decode cX8_most 108 = .ok (.getfield 13, 3) := by decide +kernel
theorem dX8_most_111 : decode cX8_most 111 = .ok (.iload 4, 2) := by decide +kernel
theorem dX8_most_113 : decode cX8_most 113 = .ok (.laload, 1) := by decide +kernel
theorem dX8_most_114 : decode cX8_most 114 = .ok (.land, 1) := by decide +kernel
theorem dX8_most_115 : decode cX8_most 115 = .ok (.lor, 1) := by decide +kernel
theorem dX8_most_116 : decode cX8_most 116 = .ok (.invokevirtual 98, 3) := by decide +kernel
theorem dX8_most_119 : decode cX8_most 119 = .ok (.ireturn, 1) := by decide +kernel
theorem dX8_turned_0 : decode cX8_turned 0 = .ok (.lconst 0, 1) := by decide +kernel
theorem dX8_turned_1 : decode cX8_turned 1 = .ok (.lstore 4, 2) := by decide +kernel
theorem dX8_turned_3 : decode cX8_turned 3 = .ok (.iconst 0, 1) := by decide +kernel
theorem dX8_turned_4 : decode cX8_turned 4 = .ok (.istore 6, 2) := by decide +kernel
theorem dX8_turned_6 : decode cX8_turned 6 = .ok (.iload 6, 2) := by decide +kernel
theorem dX8_turned_8 : decode cX8_turned 8 = .ok (.iconst 1, 1) := by decide +kernel
theorem dX8_turned_9 : decode cX8_turned 9 = .ok (.iload_n 2, 1) := by decide +kernel
theorem dX8_turned_10 : decode cX8_turned 10 = .ok (.ishl, 1) := by decide +kernel
theorem dX8_turned_11 : decode cX8_turned 11 = .ok (.if_icmp .ge 33, 3) := by decide +kernel
theorem dX8_turned_14 : decode cX8_turned 14 = .ok (.lload 4, 2) := by decide +kernel
theorem dX8_turned_16 : decode cX8_turned 16 = .ok (.lload_n 0, 1) := by decide +kernel
theorem dX8_turned_17 : decode cX8_turned 17 = .ok (.iload 6, 2) := by decide +kernel
theorem dX8_turned_19 : decode cX8_turned 19 = .ok (.iload_n 3, 1) := by decide +kernel
theorem dX8_turned_20 : decode cX8_turned 20 = .ok (.ixor, 1) := by decide +kernel
theorem dX8_turned_21 : decode cX8_turned 21 = .ok (.invokestatic 80, 3) := by decide +kernel
theorem dX8_turned_24 : decode cX8_turned 24 = .ok (.ifCond .eq 10, 3) := by decide +kernel
theorem dX8_turned_27 : decode cX8_turned 27 = .ok (.lconst 1, 1) := by decide +kernel
theorem dX8_turned_28 : decode cX8_turned 28 = .ok (.iload 6, 2) := by decide +kernel
theorem dX8_turned_30 : decode cX8_turned 30 = .ok (.lshl, 1) := by decide +kernel
theorem dX8_turned_31 : decode cX8_turned 31 = .ok (.goto 4, 3) := by decide +kernel
theorem dX8_turned_34 : decode cX8_turned 34 = .ok (.lconst 0, 1) := by decide +kernel
theorem dX8_turned_35 : decode cX8_turned 35 = .ok (.lor, 1) := by decide +kernel
theorem dX8_turned_36 : decode cX8_turned 36 = .ok (.lstore 4, 2) := by decide +kernel
theorem dX8_turned_38 : decode cX8_turned 38 = .ok (.iinc 6 1, 3) := by decide +kernel
theorem dX8_turned_41 : decode cX8_turned 41 = .ok (.goto (-35), 3) := by decide +kernel
theorem dX8_turned_44 : decode cX8_turned 44 = .ok (.lload 4, 2) := by decide +kernel
theorem dX8_turned_46 : decode cX8_turned 46 = .ok (.lreturn, 1) := by decide +kernel
theorem dX8_turn_0 : decode cX8_turn 0 = .ok (.iload_n 1, 1) := by decide +kernel
theorem dX8_turn_1 : decode cX8_turn 1 = .ok (.invokestatic 88, 3) := by decide +kernel
theorem dX8_turn_4 : decode cX8_turn 4 = .ok (.ifCond .eq 25, 3) := by decide +kernel
theorem dX8_turn_7 : decode cX8_turn 7 = .ok (.iload_n 2, 1) := by decide +kernel
theorem dX8_turn_8 : decode cX8_turn 8 = .ok (.invokestatic 88, 3) := by decide +kernel
theorem dX8_turn_11 : decode cX8_turn 11 = .ok (.ifCond .eq 18, 3) := by decide +kernel
theorem dX8_turn_14 : decode cX8_turn 14 = .ok (.iload_n 3, 1) := by decide +kernel
theorem dX8_turn_15 : decode cX8_turn 15 = .ok (.ldc 112, 2) := by decide +kernel
theorem dX8_turn_17 : decode cX8_turn 17 = .ok (.if_icmp .eq 14, 3) := by decide +kernel
theorem dX8_turn_20 : decode cX8_turn 20 = .ok (.aload_n 0, 1) := by decide +kernel
theorem dX8_turn_21 : decode cX8_turn 21 = .ok (.iload_n 2, 1) := by decide +kernel
theorem dX8_turn_22 : decode cX8_turn 22 = .ok (.iload_n 3, 1) := by decide +kernel
theorem dX8_turn_23 : decode cX8_turn 23 = .ok (.invokevirtual 113, 3) := by decide +kernel
theorem dX8_turn_26 : decode cX8_turn 26 = .ok (.ifCond .ne 5, 3) := by decide +kernel
theorem dX8_turn_29 : decode cX8_turn 29 = .ok (.iconst (-1), 1) := by decide +kernel
theorem dX8_turn_30 : decode cX8_turn 30 = .ok (.ireturn, 1) := by decide +kernel
theorem dX8_turn_31 : decode cX8_turn 31 = .ok (.iload_n 3, 1) := by decide +kernel
theorem dX8_turn_32 : decode cX8_turn 32 = .ok (.ldc 112, 2) := by decide +kernel
theorem dX8_turn_34 : decode cX8_turn 34 = .ok (.if_icmp .ne 22, 3) := by decide +kernel
theorem dX8_turn_37 : decode cX8_turn 37 = .ok (.aload_n 0, 1) := by decide +kernel
theorem dX8_turn_38 : decode cX8_turn 38 = .ok (.getfield 7, 3) := by decide +kernel
theorem dX8_turn_41 : decode cX8_turn 41 = .ok (.iload_n 2, 1) := by decide +kernel
theorem dX8_turn_42 : decode cX8_turn 42 = .ok (.iaload, 1) := by decide +kernel
theorem dX8_turn_43 : decode cX8_turn 43 = .ok (.invokestatic 94, 3) := by decide +kernel
theorem dX8_turn_46 : decode cX8_turn 46 = .ok (.aload_n 0, 1) := by decide +kernel
theorem dX8_turn_47 : decode cX8_turn 47 = .ok (.getfield 13, 3) := by decide +kernel
theorem dX8_turn_50 : decode cX8_turn 50 = .ok (.iload_n 2, 1) := by decide +kernel
theorem dX8_turn_51 : decode cX8_turn 51 = .ok (.laload, 1) := by decide +kernel
theorem dX8_turn_52 : decode cX8_turn 52 = .ok (.lxor, 1) := by decide +kernel
theorem dX8_turn_53 : decode cX8_turn 53 = .ok (.goto 21, 3) := by decide +kernel
theorem dX8_turn_56 : decode cX8_turn 56 = .ok (.aload_n 0, 1) := by decide +kernel
theorem dX8_turn_57 : decode cX8_turn 57 = .ok (.getfield 13, 3) := by decide +kernel
theorem dX8_turn_60 : decode cX8_turn 60 = .ok (.iload_n 2, 1) := by decide +kernel
theorem dX8_turn_61 : decode cX8_turn 61 = .ok (.laload, 1) := by decide +kernel
theorem dX8_turn_62 : decode cX8_turn 62 = .ok (.aload_n 0, 1) := by decide +kernel
theorem dX8_turn_63 : decode cX8_turn 63 = .ok (.getfield 7, 3) := by decide +kernel
theorem dX8_turn_66 : decode cX8_turn 66 = .ok (.iload_n 2, 1) := by decide +kernel
theorem dX8_turn_67 : decode cX8_turn 67 = .ok (.iaload, 1) := by decide +kernel
theorem dX8_turn_68 : decode cX8_turn 68 = .ok (.iconst 1, 1) := by decide +kernel
theorem dX8_turn_69 : decode cX8_turn 69 = .ok (.iload_n 3, 1) := by decide +kernel
theorem dX8_turn_70 : decode cX8_turn 70 = .ok (.ishl, 1) := by decide +kernel
theorem dX8_turn_71 : decode cX8_turn 71 = .ok (.invokestatic 117, 3) := by decide +kernel
theorem dX8_turn_74 : decode cX8_turn 74 = .ok (.lstore 4, 2) := by decide +kernel
theorem dX8_turn_76 : decode cX8_turn 76 = .ok (.aload_n 0, 1) := by decide +kernel
theorem dX8_turn_77 : decode cX8_turn 77 = .ok (.iload_n 1, 1) := by decide +kernel
theorem dX8_turn_78 : decode cX8_turn 78 = .ok (.aload_n 0, 1) := by decide +kernel
theorem dX8_turn_79 : decode cX8_turn 79 = .ok (.getfield 7, 3) := by decide +kernel
theorem dX8_turn_82 : decode cX8_turn 82 = .ok (.iload_n 2, 1) := by decide +kernel
theorem dX8_turn_83 : decode cX8_turn 83 = .ok (.iaload, 1) := by decide +kernel
theorem dX8_turn_84 : decode cX8_turn 84 = .ok (.lload 4, 2) := by decide +kernel
theorem dX8_turn_86 : decode cX8_turn 86 = .ok (.invokevirtual 98, 3) := by decide +kernel
theorem dX8_turn_89 : decode cX8_turn 89 = .ok (.ireturn, 1) := by decide +kernel
theorem dX8_hold_0 : decode cX8_hold 0 = .ok (.iload_n 1, 1) := by decide +kernel
theorem dX8_hold_1 : decode cX8_hold 1 = .ok (.invokestatic 88, 3) := by decide +kernel
theorem dX8_hold_4 : decode cX8_hold 4 = .ok (.ifCond .eq 19, 3) := by decide +kernel
theorem dX8_hold_7 : decode cX8_hold 7 = .ok (.iload_n 2, 1) := by decide +kernel
theorem dX8_hold_8 : decode cX8_hold 8 = .ok (.invokestatic 88, 3) := by decide +kernel
theorem dX8_hold_11 : decode cX8_hold 11 = .ok (.ifCond .eq 12, 3) := by decide +kernel
theorem dX8_hold_14 : decode cX8_hold 14 = .ok (.aload_n 0, 1) := by decide +kernel
theorem dX8_hold_15 : decode cX8_hold 15 = .ok (.iload_n 2, 1) := by decide +kernel
theorem dX8_hold_16 : decode cX8_hold 16 = .ok (.iload_n 3, 1) := by decide +kernel
theorem dX8_hold_17 : decode cX8_hold 17 = .ok (.invokevirtual 113, 3) := by decide +kernel
theorem dX8_hold_20 : decode cX8_hold 20 = .ok (.ifCond .ne 5, 3) := by decide +kernel
theorem dX8_hold_23 : decode cX8_hold 23 = .ok (.iconst (-1), 1) := by decide +kernel
theorem dX8_hold_24 : decode cX8_hold 24 = .ok (.ireturn, 1) := by decide +kernel
theorem dX8_hold_25 : decode cX8_hold 25 = .ok (.aload_n 0, 1) := by decide +kernel
theorem dX8_hold_26 : decode cX8_hold 26 = .ok (.getfield 7, 3) := by decide +kernel
theorem dX8_hold_29 : decode cX8_hold 29 = .ok (.iload_n 2, 1) := by decide +kernel
theorem dX8_hold_30 : decode cX8_hold 30 = .ok (.iaload, 1) := by decide +kernel
theorem dX8_hold_31 : decode cX8_hold 31 = .ok (.iconst 1, 1) := by decide +kernel
theorem dX8_hold_32 : decode cX8_hold 32 = .ok (.if_icmp .ne 6, 3) := by decide +kernel
theorem dX8_hold_35 : decode cX8_hold 35 = .ok (.bipush (-3), 2) := by decide +kernel
theorem dX8_hold_37 : decode cX8_hold 37 = .ok (.ireturn, 1) := by decide +kernel
theorem dX8_hold_38 : decode cX8_hold 38 = .ok (.lconst 0, 1) := by decide +kernel
theorem dX8_hold_39 : decode cX8_hold 39 = .ok (.lstore 5, 2) := by decide +kernel
theorem dX8_hold_41 : decode cX8_hold 41 = .ok (.aload_n 0, 1) := by decide +kernel
theorem dX8_hold_42 : decode cX8_hold 42 = .ok (.getfield 7, 3) := by decide +kernel
theorem dX8_hold_45 : decode cX8_hold 45 = .ok (.iload_n 2, 1) := by decide +kernel
theorem dX8_hold_46 : decode cX8_hold 46 = .ok (.iaload, 1) := by decide +kernel
theorem dX8_hold_47 : decode cX8_hold 47 = .ok (.iconst 1, 1) := by decide +kernel
theorem dX8_hold_48 : decode cX8_hold 48 = .ok (.isub, 1) := by decide +kernel
theorem dX8_hold_49 : decode cX8_hold 49 = .ok (.istore 7, 2) := by decide +kernel
theorem dX8_hold_51 : decode cX8_hold 51 = .ok (.iconst 0, 1) := by decide +kernel
theorem dX8_hold_52 : decode cX8_hold 52 = .ok (.istore 8, 2) := by decide +kernel
theorem dX8_hold_54 : decode cX8_hold 54 = .ok (.iload 8, 2) := by decide +kernel
theorem dX8_hold_56 : decode cX8_hold 56 = .ok (.iconst 1, 1) := by decide +kernel
theorem dX8_hold_57 : decode cX8_hold 57 = .ok (.iload 7, 2) := by decide +kernel
theorem dX8_hold_59 : decode cX8_hold 59 = .ok (.ishl, 1) := by decide +kernel
theorem dX8_hold_60 : decode cX8_hold 60 = .ok (.if_icmp .ge 72, 3) := by decide +kernel
theorem dX8_hold_63 : decode cX8_hold 63 = .ok (.iload 8, 2) := by decide +kernel
theorem dX8_hold_65 : decode cX8_hold 65 = .ok (.iconst 1, 1) := by decide +kernel
theorem dX8_hold_66 : decode cX8_hold 66 = .ok (.iload_n 3, 1) := by decide +kernel
theorem dX8_hold_67 : decode cX8_hold 67 = .ok (.ishl, 1) := by decide +kernel
theorem dX8_hold_68 : decode cX8_hold 68 = .ok (.iconst 1, 1) := by decide +kernel
theorem dX8_hold_69 : decode cX8_hold 69 = .ok (.isub, 1) := by decide +kernel
theorem dX8_hold_70 : decode cX8_hold 70 = .ok (.iand, 1) := by decide +kernel
theorem dX8_hold_71 : decode cX8_hold 71 = .ok (.istore 9, 2) := by decide +kernel
theorem dX8_hold_73 : decode cX8_hold 73 = .ok (.iload 9, 2) := by decide +kernel
theorem dX8_hold_75 : decode cX8_hold 75 = .ok (.iload 8, 2) := by decide +kernel
theorem dX8_hold_77 : decode cX8_hold 77 = .ok (.iload_n 3, 1) := by decide +kernel
theorem dX8_hold_78 : decode cX8_hold 78 = .ok (.ishr, 1) := by decide +kernel
theorem dX8_hold_79 : decode cX8_hold 79 = .ok (.iload_n 3, 1) := by decide +kernel
theorem dX8_hold_80 : decode cX8_hold 80 = .ok (.iconst 1, 1) := by decide +kernel
theorem dX8_hold_81 : decode cX8_hold 81 = .ok (.iadd, 1) := by decide +kernel
theorem dX8_hold_82 : decode cX8_hold 82 = .ok (.ishl, 1) := by decide +kernel
theorem dX8_hold_83 : decode cX8_hold 83 = .ok (.ior, 1) := by decide +kernel
theorem dX8_hold_84 : decode cX8_hold 84 = .ok (.iload 4, 2) := by decide +kernel
theorem dX8_hold_86 : decode cX8_hold 86 = .ok (.ifCond .eq 9, 3) := by decide +kernel
theorem dX8_hold_89 : decode cX8_hold 89 = .ok (.iconst 1, 1) := by decide +kernel
theorem dX8_hold_90 : decode cX8_hold 90 = .ok (.iload_n 3, 1) := by decide +kernel
theorem dX8_hold_91 : decode cX8_hold 91 = .ok (.ishl, 1) := by decide +kernel
theorem dX8_hold_92 : decode cX8_hold 92 = .ok (.goto 4, 3) := by decide +kernel
theorem dX8_hold_95 : decode cX8_hold 95 = .ok (.iconst 0, 1) := by decide +kernel
theorem dX8_hold_96 : decode cX8_hold 96 = .ok (.ior, 1) := by decide +kernel
theorem dX8_hold_97 : decode cX8_hold 97 = .ok (.istore 10, 2) := by decide +kernel
theorem dX8_hold_99 : decode cX8_hold 99 = .ok (.lload 5, 2) := by decide +kernel
theorem dX8_hold_101 : decode cX8_hold 101 = .ok (.aload_n 0, 1) := by decide +kernel
theorem dX8_hold_102 : decode cX8_hold 102 = .ok (.getfield 13, 3) := by decide +kernel
theorem dX8_hold_105 : decode cX8_hold 105 = .ok (.iload_n 2, 1) := by decide +kernel
theorem dX8_hold_106 : decode cX8_hold 106 = .ok (.laload, 1) := by decide +kernel
theorem dX8_hold_107 : decode cX8_hold 107 = .ok (.iload 10, 2) := by decide +kernel
theorem dX8_hold_109 : decode cX8_hold 109 = .ok (.invokestatic 80, 3) := by decide +kernel
theorem dX8_hold_112 : decode cX8_hold 112 = .ok (.ifCond .eq 10, 3) := by decide +kernel
theorem dX8_hold_115 : decode cX8_hold 115 = .ok (.lconst 1, 1) := by decide +kernel
theorem dX8_hold_116 : decode cX8_hold 116 = .ok (.iload 8, 2) := by decide +kernel
theorem dX8_hold_118 : decode cX8_hold 118 = .ok (.lshl, 1) := by decide +kernel
theorem dX8_hold_119 : decode cX8_hold 119 = .ok (.goto 4, 3) := by decide +kernel
theorem dX8_hold_122 : decode cX8_hold 122 = .ok (.lconst 0, 1) := by decide +kernel
theorem dX8_hold_123 : decode cX8_hold 123 = .ok (.lor, 1) := by decide +kernel
theorem dX8_hold_124 : decode cX8_hold 124 = .ok (.lstore 5, 2) := by decide +kernel
theorem dX8_hold_126 : decode cX8_hold 126 = .ok (.iinc 8 1, 3) := by decide +kernel
theorem dX8_hold_129 : decode cX8_hold 129 = .ok (.goto (-75), 3) := by decide +kernel
theorem dX8_hold_132 : decode cX8_hold 132 = .ok (.aload_n 0, 1) := by decide +kernel
theorem dX8_hold_133 : decode cX8_hold 133 = .ok (.iload_n 1, 1) := by decide +kernel
theorem dX8_hold_134 : decode cX8_hold 134 = .ok (.iload 7, 2) := by decide +kernel
theorem dX8_hold_136 : decode cX8_hold 136 = .ok (.lload 5, 2) := by decide +kernel
theorem dX8_hold_138 : decode cX8_hold 138 = .ok (.invokevirtual 98, 3) := by decide +kernel
theorem dX8_hold_141 : decode cX8_hold 141 = .ok (.istore 8, 2) := by decide +kernel
theorem dX8_hold_143 : decode cX8_hold 143 = .ok (.iload 7, 2) := by decide +kernel
theorem dX8_hold_145 : decode cX8_hold 145 = .ok (.ireturn, 1) := by decide +kernel
theorem dX8_matters_0 : decode cX8_matters 0 = .ok (.iload_n 1, 1) := by decide +kernel
theorem dX8_matters_1 : decode cX8_matters 1 = .ok (.invokestatic 88, 3) := by decide +kernel
theorem dX8_matters_4 : decode cX8_matters 4 = .ok (.ifCond .eq 12, 3) := by decide +kernel
theorem dX8_matters_7 : decode cX8_matters 7 = .ok (.aload_n 0, 1) := by decide +kernel
theorem dX8_matters_8 : decode cX8_matters 8 = .ok (.iload_n 1, 1) := by decide +kernel
theorem dX8_matters_9 : decode cX8_matters 9 = .ok (.iload_n 2, 1) := by decide +kernel
theorem dX8_matters_10 : decode cX8_matters 10 = .ok (.invokevirtual 113, 3) := by decide +kernel
theorem dX8_matters_13 : decode cX8_matters 13 = .ok (.ifCond .ne 5, 3) := by decide +kernel
theorem dX8_matters_16 : decode cX8_matters 16 = .ok (.iconst (-1), 1) := by decide +kernel
theorem dX8_matters_17 : decode cX8_matters 17 = .ok (.ireturn, 1) := by decide +kernel
theorem dX8_matters_18 : decode cX8_matters 18 = .ok (.aload_n 0, 1) := by decide +kernel
theorem dX8_matters_19 : decode cX8_matters 19 = .ok (.getfield 13, 3) := by decide +kernel
theorem dX8_matters_22 : decode cX8_matters 22 = .ok (.iload_n 1, 1) := by decide +kernel
theorem dX8_matters_23 : decode cX8_matters 23 = .ok (.laload, 1) := by decide +kernel
theorem dX8_matters_24 : decode cX8_matters 24 = .ok (.aload_n 0, 1) := by decide +kernel
theorem dX8_matters_25 : decode cX8_matters 25 = .ok (.getfield 7, 3) := by decide +kernel
theorem dX8_matters_28 : decode cX8_matters 28 = .ok (.iload_n 1, 1) := by decide +kernel
theorem dX8_matters_29 : decode cX8_matters 29 = .ok (.iaload, 1) := by decide +kernel
theorem dX8_matters_30 : decode cX8_matters 30 = .ok (.iconst 1, 1) := by decide +kernel
theorem dX8_matters_31 : decode cX8_matters 31 = .ok (.iload_n 2, 1) := by decide +kernel
theorem dX8_matters_32 : decode cX8_matters 32 = .ok (.ishl, 1) := by decide +kernel
theorem dX8_matters_33 : decode cX8_matters 33 = .ok (.invokestatic 117, 3) := by decide +kernel
theorem dX8_matters_36 : decode cX8_matters 36 = .ok (.aload_n 0, 1) := by decide +kernel
theorem dX8_matters_37 : decode cX8_matters 37 = .ok (.getfield 13, 3) := by decide +kernel
theorem dX8_matters_40 : decode cX8_matters 40 = .ok (.iload_n 1, 1) := by decide +kernel
theorem dX8_matters_41 : decode cX8_matters 41 = .ok (.laload, 1) := by decide +kernel
theorem dX8_matters_42 : decode cX8_matters 42 = .ok (.lcmp, 1) := by decide +kernel
theorem dX8_matters_43 : decode cX8_matters 43 = .ok (.ifCond .ne 7, 3) := by decide +kernel
theorem dX8_matters_46 : decode cX8_matters 46 = .ok (.iconst 0, 1) := by decide +kernel
theorem dX8_matters_47 : decode cX8_matters 47 = .ok (.goto 4, 3) := by decide +kernel
theorem dX8_matters_50 : decode cX8_matters 50 = .ok (.iconst 1, 1) := by decide +kernel
theorem dX8_matters_51 : decode cX8_matters 51 = .ok (.ireturn, 1) := by decide +kernel
theorem dX8_ones__0 : decode cX8_ones_ 0 = .ok (.iload_n 1, 1) := by decide +kernel
theorem dX8_ones__1 : decode cX8_ones_ 1 = .ok (.invokestatic 88, 3) := by decide +kernel
theorem dX8_ones__4 : decode cX8_ones_ 4 = .ok (.ifCond .eq 18, 3) := by decide +kernel
theorem dX8_ones__7 : decode cX8_ones_ 7 = .ok (.iload_n 2, 1) := by decide +kernel
theorem dX8_ones__8 : decode cX8_ones_ 8 = .ok (.ldc 112, 2) := by decide +kernel
theorem dX8_ones__10 : decode cX8_ones_ 10 = .ok (.if_icmp .eq 14, 3) := by decide +kernel
theorem dX8_ones__13 : decode cX8_ones_ 13 = .ok (.aload_n 0, 1) := by decide +kernel
theorem dX8_ones__14 : decode cX8_ones_ 14 = .ok (.iload_n 1, 1) := by decide +kernel
theorem dX8_ones__15 : decode cX8_ones_ 15 = .ok (.iload_n 2, 1) := by decide +kernel
theorem dX8_ones__16 : decode cX8_ones_ 16 = .ok (.invokevirtual 113, 3) := by decide +kernel
theorem dX8_ones__19 : decode cX8_ones_ 19 = .ok (.ifCond .ne 5, 3) := by decide +kernel
theorem dX8_ones__22 : decode cX8_ones_ 22 = .ok (.iconst (-1), 1) := by decide +kernel
theorem dX8_ones__23 : decode cX8_ones_ 23 = .ok (.ireturn, 1) := by decide +kernel
theorem dX8_ones__24 : decode cX8_ones_ 24 = .ok (.iconst 0, 1) := by decide +kernel
theorem dX8_ones__25 : decode cX8_ones_ 25 = .ok (.istore_n 3, 1) := by decide +kernel
theorem dX8_ones__26 : decode cX8_ones_ 26 = .ok (.iconst 0, 1) := by decide +kernel
theorem dX8_ones__27 : decode cX8_ones_ 27 = .ok (.istore 4, 2) := by decide +kernel
theorem dX8_ones__29 : decode cX8_ones_ 29 = .ok (.iload 4, 2) := by decide +kernel
theorem dX8_ones__31 : decode cX8_ones_ 31 = .ok (.iconst 1, 1) := by decide +kernel
theorem dX8_ones__32 : decode cX8_ones_ 32 = .ok (.aload_n 0, 1) := by decide +kernel
theorem dX8_ones__33 : decode cX8_ones_ 33 = .ok (.getfield 7, 3) := by decide +kernel
theorem dX8_ones__36 : decode cX8_ones_ 36 = .ok (.iload_n 1, 1) := by decide +kernel
theorem dX8_ones__37 : decode cX8_ones_ 37 = .ok (.iaload, 1) := by decide +kernel
theorem dX8_ones__38 : decode cX8_ones_ 38 = .ok (.ishl, 1) := by decide +kernel
theorem dX8_ones__39 : decode cX8_ones_ 39 = .ok (.if_icmp .ge 47, 3) := by decide +kernel
theorem dX8_ones__42 : decode cX8_ones_ 42 = .ok (.iload_n 3, 1) := by decide +kernel
theorem dX8_ones__43 : decode cX8_ones_ 43 = .ok (.aload_n 0, 1) := by decide +kernel
theorem dX8_ones__44 : decode cX8_ones_ 44 = .ok (.getfield 13, 3) := by decide +kernel
theorem dX8_ones__47 : decode cX8_ones_ 47 = .ok (.iload_n 1, 1) := by decide +kernel
theorem dX8_ones__48 : decode cX8_ones_ 48 = .ok (.laload, 1) := by decide +kernel
theorem dX8_ones__49 : decode cX8_ones_ 49 = .ok (.iload 4, 2) := by decide +kernel
theorem dX8_ones__51 : decode cX8_ones_ 51 = .ok (.invokestatic 80, 3) := by decide +kernel
theorem dX8_ones__54 : decode cX8_ones_ 54 = .ok (.ifCond .eq 23, 3) := by decide +kernel
theorem dX8_ones__57 : decode cX8_ones_ 57 = .ok (.iload_n 2, 1) := by decide +kernel
theorem dX8_ones__58 : decode cX8_ones_ 58 = .ok (.ldc 112, 2) := by decide +kernel
theorem dX8_ones__60 : decode cX8_ones_ 60 = .ok (.if_icmp .eq 13, 3) := by decide +kernel
theorem dX8_ones__63 : decode cX8_ones_ 63 = .ok (.iload 4, 2) := by decide +kernel
theorem dX8_ones__65 : decode cX8_ones_ 65 = .ok (.iload_n 2, 1) := by decide +kernel
theorem dX8_ones__66 : decode cX8_ones_ 66 = .ok (.ishr, 1) := by decide +kernel
theorem dX8_ones__67 : decode cX8_ones_ 67 = .ok (.iconst 1, 1) := by decide +kernel
theorem dX8_ones__68 : decode cX8_ones_ 68 = .ok (.iand, 1) := by decide +kernel
theorem dX8_ones__69 : decode cX8_ones_ 69 = .ok (.iconst 1, 1) := by decide +kernel
theorem dX8_ones__70 : decode cX8_ones_ 70 = .ok (.if_icmp .ne 7, 3) := by decide +kernel
theorem dX8_ones__73 : decode cX8_ones_ 73 = .ok (.iconst 1, 1) := by decide +kernel
theorem dX8_ones__74 : decode cX8_ones_ 74 = .ok (.goto 4, 3) := by decide +kernel
theorem dX8_ones__77 : decode cX8_ones_ 77 = .ok (.iconst 0, 1) := by decide +kernel
theorem dX8_ones__78 : decode cX8_ones_ 78 = .ok (.iadd, 1) := by decide +kernel
theorem dX8_ones__79 : decode cX8_ones_ 79 = .ok (.istore_n 3, 1) := by decide +kernel
theorem dX8_ones__80 : decode cX8_ones_ 80 = .ok (.iinc 4 1, 3) := by decide +kernel
theorem dX8_ones__83 : decode cX8_ones_ 83 = .ok (.goto (-54), 3) := by decide +kernel
theorem dX8_ones__86 : decode cX8_ones_ 86 = .ok (.iload_n 3, 1) := by decide +kernel
theorem dX8_ones__87 : decode cX8_ones_ 87 = .ok (.ireturn, 1) := by decide +kernel
theorem dX8_layThree_0 : decode cX8_layThree 0 = .ok (.iconst 0, 1) := by decide +kernel
theorem dX8_layThree_1 : decode cX8_layThree 1 = .ok (.istore_n 2, 1) := by decide +kernel
theorem dX8_layThree_2 : decode cX8_layThree 2 = .ok (.iload_n 2, 1) := by decide +kernel
theorem dX8_layThree_3 : decode cX8_layThree 3 = .ok (.iconst 1, 1) := by decide +kernel
theorem dX8_layThree_4 : decode cX8_layThree 4 = .ok (.iload_n 1, 1) := by decide +kernel
theorem dX8_layThree_5 : decode cX8_layThree 5 = .ok (.ishl, 1) := by decide +kernel
theorem dX8_layThree_6 : decode cX8_layThree 6 = .ok (.if_icmp .ge 45, 3) := by decide +kernel
theorem dX8_layThree_9 : decode cX8_layThree 9 = .ok (.iconst 0, 1) := by decide +kernel
theorem dX8_layThree_10 : decode cX8_layThree 10 = .ok (.istore_n 3, 1) := by decide +kernel
theorem dX8_layThree_11 : decode cX8_layThree 11 = .ok (.iload_n 1, 1) := by decide +kernel
theorem dX8_layThree_12 : decode cX8_layThree 12 = .ok (.iconst 1, 1) := by decide +kernel
theorem dX8_layThree_13 : decode cX8_layThree 13 = .ok (.isub, 1) := by decide +kernel
theorem dX8_layThree_14 : decode cX8_layThree 14 = .ok (.istore 4, 2) := by decide +kernel
theorem dX8_layThree_16 : decode cX8_layThree 16 = .ok (.iload 4, 2) := by decide +kernel
theorem dX8_layThree_18 : decode cX8_layThree 18 = .ok (.ifCond .lt 20, 3) := by decide +kernel
theorem dX8_layThree_21 : decode cX8_layThree 21 = .ok (.iconst 3, 1) := by decide +kernel
theorem dX8_layThree_22 : decode cX8_layThree 22 = .ok (.iload_n 3, 1) := by decide +kernel
theorem dX8_layThree_23 : decode cX8_layThree 23 = .ok (.imul, 1) := by decide +kernel
theorem dX8_layThree_24 : decode cX8_layThree 24 = .ok (.iload_n 2, 1) := by decide +kernel
theorem dX8_layThree_25 : decode cX8_layThree 25 = .ok (.iload 4, 2) := by decide +kernel
theorem dX8_layThree_27 : decode cX8_layThree 27 = .ok (.ishr, 1) := by decide +kernel
theorem dX8_layThree_28 : decode cX8_layThree 28 = .ok (.iconst 1, 1) := by decide +kernel
theorem dX8_layThree_29 : decode cX8_layThree 29 = .ok (.iand, 1) := by decide +kernel
theorem dX8_layThree_30 : decode cX8_layThree 30 = .ok (.iadd, 1) := by decide +kernel
