theorem dX8_layThree_31 : decode cX8_layThree 31 = .ok (.istore_n 3, 1) := by decide +kernel
theorem dX8_layThree_32 : decode cX8_layThree 32 = .ok (.iinc 4 (-1), 3) := by decide +kernel
theorem dX8_layThree_35 : decode cX8_layThree 35 = .ok (.goto (-19), 3) := by decide +kernel
theorem dX8_layThree_38 : decode cX8_layThree 38 = .ok (.aload_n 0, 1) := by decide +kernel
theorem dX8_layThree_39 : decode cX8_layThree 39 = .ok (.getfield 17, 3) := by decide +kernel
theorem dX8_layThree_42 : decode cX8_layThree 42 = .ok (.iload_n 2, 1) := by decide +kernel
theorem dX8_layThree_43 : decode cX8_layThree 43 = .ok (.iload_n 3, 1) := by decide +kernel
theorem dX8_layThree_44 : decode cX8_layThree 44 = .ok (.iastore, 1) := by decide +kernel
theorem dX8_layThree_45 : decode cX8_layThree 45 = .ok (.iinc 2 1, 3) := by decide +kernel
theorem dX8_layThree_48 : decode cX8_layThree 48 = .ok (.goto (-46), 3) := by decide +kernel
theorem dX8_layThree_51 : decode cX8_layThree 51 = .ok (.return_, 1) := by decide +kernel
theorem dX8_layFalse_0 : decode cX8_layFalse 0 = .ok (.aload_n 0, 1) := by decide +kernel
theorem dX8_layFalse_1 : decode cX8_layFalse 1 = .ok (.iload_n 3, 1) := by decide +kernel
theorem dX8_layFalse_2 : decode cX8_layFalse 2 = .ok (.invokevirtual 121, 3) := by decide +kernel
theorem dX8_layFalse_5 : decode cX8_layFalse 5 = .ok (.iconst 0, 1) := by decide +kernel
theorem dX8_layFalse_6 : decode cX8_layFalse 6 = .ok (.istore 4, 2) := by decide +kernel
theorem dX8_layFalse_8 : decode cX8_layFalse 8 = .ok (.iload 4, 2) := by decide +kernel
theorem dX8_layFalse_10 : decode cX8_layFalse 10 = .ok (.sipush 243, 3) := by decide +kernel
theorem dX8_layFalse_13 : decode cX8_layFalse 13 = .ok (.if_icmp .ge 17, 3) := by decide +kernel
theorem dX8_layFalse_16 : decode cX8_layFalse 16 = .ok (.aload_n 0, 1) := by decide +kernel
theorem dX8_layFalse_17 : decode cX8_layFalse 17 = .ok (.getfield 20, 3) := by decide +kernel
theorem dX8_layFalse_20 : decode cX8_layFalse 20 = .ok (.iload 4, 2) := by decide +kernel
theorem dX8_layFalse_22 : decode cX8_layFalse 22 = .ok (.iconst 0, 1) := by decide +kernel
theorem dX8_layFalse_23 : decode cX8_layFalse 23 = .ok (.bastore, 1) := by decide +kernel
theorem dX8_layFalse_24 : decode cX8_layFalse 24 = .ok (.iinc 4 1, 3) := by decide +kernel
theorem dX8_layFalse_27 : decode cX8_layFalse 27 = .ok (.goto (-19), 3) := by decide +kernel
theorem dX8_layFalse_30 : decode cX8_layFalse 30 = .ok (.iconst 0, 1) := by decide +kernel
theorem dX8_layFalse_31 : decode cX8_layFalse 31 = .ok (.istore 4, 2) := by decide +kernel
theorem dX8_layFalse_33 : decode cX8_layFalse 33 = .ok (.iload 4, 2) := by decide +kernel
theorem dX8_layFalse_35 : decode cX8_layFalse 35 = .ok (.iconst 1, 1) := by decide +kernel
theorem dX8_layFalse_36 : decode cX8_layFalse 36 = .ok (.iload_n 3, 1) := by decide +kernel
theorem dX8_layFalse_37 : decode cX8_layFalse 37 = .ok (.ishl, 1) := by decide +kernel
theorem dX8_layFalse_38 : decode cX8_layFalse 38 = .ok (.if_icmp .ge 66, 3) := by decide +kernel
theorem dX8_layFalse_41 : decode cX8_layFalse 41 = .ok (.iload 4, 2) := by decide +kernel
theorem dX8_layFalse_43 : decode cX8_layFalse 43 = .ok (.istore 5, 2) := by decide +kernel
theorem dX8_layFalse_45 : decode cX8_layFalse 45 = .ok (.iload 5, 2) := by decide +kernel
theorem dX8_layFalse_47 : decode cX8_layFalse 47 = .ok (.iconst 1, 1) := by decide +kernel
theorem dX8_layFalse_48 : decode cX8_layFalse 48 = .ok (.iload_n 3, 1) := by decide +kernel
theorem dX8_layFalse_49 : decode cX8_layFalse 49 = .ok (.ishl, 1) := by decide +kernel
theorem dX8_layFalse_50 : decode cX8_layFalse 50 = .ok (.if_icmp .ge 48, 3) := by decide +kernel
theorem dX8_layFalse_53 : decode cX8_layFalse 53 = .ok (.lload_n 1, 1) := by decide +kernel
theorem dX8_layFalse_54 : decode cX8_layFalse 54 = .ok (.iload 4, 2) := by decide +kernel
theorem dX8_layFalse_56 : decode cX8_layFalse 56 = .ok (.invokestatic 80, 3) := by decide +kernel
theorem dX8_layFalse_59 : decode cX8_layFalse 59 = .ok (.ifCond .ne 39, 3) := by decide +kernel
theorem dX8_layFalse_62 : decode cX8_layFalse 62 = .ok (.lload_n 1, 1) := by decide +kernel
theorem dX8_layFalse_63 : decode cX8_layFalse 63 = .ok (.iload 5, 2) := by decide +kernel
theorem dX8_layFalse_65 : decode cX8_layFalse 65 = .ok (.invokestatic 80, 3) := by decide +kernel
theorem dX8_layFalse_68 : decode cX8_layFalse 68 = .ok (.ifCond .ne 24, 3) := by decide +kernel
theorem dX8_layFalse_71 : decode cX8_layFalse 71 = .ok (.aload_n 0, 1) := by decide +kernel
theorem dX8_layFalse_72 : decode cX8_layFalse 72 = .ok (.getfield 20, 3) := by decide +kernel
theorem dX8_layFalse_75 : decode cX8_layFalse 75 = .ok (.aload_n 0, 1) := by decide +kernel
theorem dX8_layFalse_76 : decode cX8_layFalse 76 = .ok (.getfield 17, 3) := by decide +kernel
theorem dX8_layFalse_79 : decode cX8_layFalse 79 = .ok (.iload 4, 2) := by decide +kernel
theorem dX8_layFalse_81 : decode cX8_layFalse 81 = .ok (.iaload, 1) := by decide +kernel
theorem dX8_layFalse_82 : decode cX8_layFalse 82 = .ok (.aload_n 0, 1) := by decide +kernel
theorem dX8_layFalse_83 : decode cX8_layFalse 83 = .ok (.getfield 17, 3) := by decide +kernel
theorem dX8_layFalse_86 : decode cX8_layFalse 86 = .ok (.iload 5, 2) := by decide +kernel
theorem dX8_layFalse_88 : decode cX8_layFalse 88 = .ok (.iaload, 1) := by decide +kernel
theorem dX8_layFalse_89 : decode cX8_layFalse 89 = .ok (.iadd, 1) := by decide +kernel
theorem dX8_layFalse_90 : decode cX8_layFalse 90 = .ok (.iconst 1, 1) := by decide +kernel
theorem dX8_layFalse_91 : decode cX8_layFalse 91 = .ok (.bastore, 1) := by decide +kernel
theorem dX8_layFalse_92 : decode cX8_layFalse 92 = .ok (.iinc 5 1, 3) := by decide +kernel
theorem dX8_layFalse_95 : decode cX8_layFalse 95 = .ok (.goto (-50), 3) := by decide +kernel
theorem dX8_layFalse_98 : decode cX8_layFalse 98 = .ok (.iinc 4 1, 3) := by decide +kernel
theorem dX8_layFalse_101 : decode cX8_layFalse 101 = .ok (.goto (-68), 3) := by decide +kernel
theorem dX8_layFalse_104 : decode cX8_layFalse 104 = .ok (.return_, 1) := by decide +kernel
theorem dX8_isGate_0 : decode cX8_isGate 0 = .ok (.aload_n 0, 1) := by decide +kernel
theorem dX8_isGate_1 : decode cX8_isGate 1 = .ok (.lload_n 1, 1) := by decide +kernel
theorem dX8_isGate_2 : decode cX8_isGate 2 = .ok (.iload_n 3, 1) := by decide +kernel
theorem dX8_isGate_3 : decode cX8_isGate 3 = .ok (.invokevirtual 125, 3) := by decide +kernel
theorem dX8_isGate_6 : decode cX8_isGate 6 = .ok (.iconst 0, 1) := by decide +kernel
theorem dX8_isGate_7 : decode cX8_isGate 7 = .ok (.istore 4, 2) := by decide +kernel
theorem dX8_isGate_9 : decode cX8_isGate 9 = .ok (.iload 4, 2) := by decide +kernel
theorem dX8_isGate_11 : decode cX8_isGate 11 = .ok (.iconst 1, 1) := by decide +kernel
theorem dX8_isGate_12 : decode cX8_isGate 12 = .ok (.iload_n 3, 1) := by decide +kernel
theorem dX8_isGate_13 : decode cX8_isGate 13 = .ok (.ishl, 1) := by decide +kernel
theorem dX8_isGate_14 : decode cX8_isGate 14 = .ok (.if_icmp .ge 86, 3) := by decide +kernel
theorem dX8_isGate_17 : decode cX8_isGate 17 = .ok (.iload 4, 2) := by decide +kernel
theorem dX8_isGate_19 : decode cX8_isGate 19 = .ok (.istore 5, 2) := by decide +kernel
theorem dX8_isGate_21 : decode cX8_isGate 21 = .ok (.iload 5, 2) := by decide +kernel
theorem dX8_isGate_23 : decode cX8_isGate 23 = .ok (.iconst 1, 1) := by decide +kernel
theorem dX8_isGate_24 : decode cX8_isGate 24 = .ok (.iload_n 3, 1) := by decide +kernel
theorem dX8_isGate_25 : decode cX8_isGate 25 = .ok (.ishl, 1) := by decide +kernel
theorem dX8_isGate_26 : decode cX8_isGate 26 = .ok (.if_icmp .ge 68, 3) := by decide +kernel
theorem dX8_isGate_29 : decode cX8_isGate 29 = .ok (.lload_n 1, 1) := by decide +kernel
theorem dX8_isGate_30 : decode cX8_isGate 30 = .ok (.iload 4, 2) := by decide +kernel
theorem dX8_isGate_32 : decode cX8_isGate 32 = .ok (.invokestatic 80, 3) := by decide +kernel
theorem dX8_isGate_35 : decode cX8_isGate 35 = .ok (.ifCond .eq 59, 3) := by decide +kernel
theorem dX8_isGate_38 : decode cX8_isGate 38 = .ok (.lload_n 1, 1) := by decide +kernel
theorem dX8_isGate_39 : decode cX8_isGate 39 = .ok (.iload 5, 2) := by decide +kernel
theorem dX8_isGate_41 : decode cX8_isGate 41 = .ok (.invokestatic 80, 3) := by decide +kernel
theorem dX8_isGate_44 : decode cX8_isGate 44 = .ok (.ifCond .eq 44, 3) := by decide +kernel
theorem dX8_isGate_47 : decode cX8_isGate 47 = .ok (.aload_n 0, 1) := by decide +kernel
theorem dX8_isGate_48 : decode cX8_isGate 48 = .ok (.getfield 20, 3) := by decide +kernel
theorem dX8_isGate_51 : decode cX8_isGate 51 = .ok (.aload_n 0, 1) := by decide +kernel
theorem dX8_isGate_52 : decode cX8_isGate 52 = .ok (.getfield 17, 3) := by decide +kernel
theorem dX8_isGate_55 : decode cX8_isGate 55 = .ok (.iload 4, 2) := by decide +kernel
theorem dX8_isGate_57 : decode cX8_isGate 57 = .ok (.iaload, 1) := by decide +kernel
theorem dX8_isGate_58 : decode cX8_isGate 58 = .ok (.aload_n 0, 1) := by decide +kernel
theorem dX8_isGate_59 : decode cX8_isGate 59 = .ok (.getfield 17, 3) := by decide +kernel
theorem dX8_isGate_62 : decode cX8_isGate 62 = .ok (.iload 5, 2) := by decide +kernel
theorem dX8_isGate_64 : decode cX8_isGate 64 = .ok (.iaload, 1) := by decide +kernel
theorem dX8_isGate_65 : decode cX8_isGate 65 = .ok (.iadd, 1) := by decide +kernel
theorem dX8_isGate_66 : decode cX8_isGate 66 = .ok (.baload, 1) := by decide +kernel
theorem dX8_isGate_67 : decode cX8_isGate 67 = .ok (.ifCond .eq 21, 3) := by decide +kernel
theorem dX8_isGate_70 : decode cX8_isGate 70 = .ok (.aload_n 0, 1) := by decide +kernel
theorem dX8_isGate_71 : decode cX8_isGate 71 = .ok (.getfield 24, 3) := by decide +kernel
theorem dX8_isGate_74 : decode cX8_isGate 74 = .ok (.iconst 0, 1) := by decide +kernel
theorem dX8_isGate_75 : decode cX8_isGate 75 = .ok (.iload 4, 2) := by decide +kernel
theorem dX8_isGate_77 : decode cX8_isGate 77 = .ok (.iastore, 1) := by decide +kernel
theorem dX8_isGate_78 : decode cX8_isGate 78 = .ok (.aload_n 0, 1) := by decide +kernel
theorem dX8_isGate_79 : decode cX8_isGate 79 = .ok (.getfield 24, 3) := by decide +kernel
theorem dX8_isGate_82 : decode cX8_isGate 82 = .ok (.iconst 1, 1) := by decide +kernel
theorem dX8_isGate_83 : decode cX8_isGate 83 = .ok (.iload 5, 2) := by decide +kernel
theorem dX8_isGate_85 : decode cX8_isGate 85 = .ok (.iastore, 1) := by decide +kernel
theorem dX8_isGate_86 : decode cX8_isGate 86 = .ok (.iconst 0, 1) := by decide +kernel
theorem dX8_isGate_87 : decode cX8_isGate 87 = .ok (.ireturn, 1) := by decide +kernel
theorem dX8_isGate_88 : decode cX8_isGate 88 = .ok (.iinc 5 1, 3) := by decide +kernel
theorem dX8_isGate_91 : decode cX8_isGate 91 = .ok (.goto (-70), 3) := by decide +kernel
theorem dX8_isGate_94 : decode cX8_isGate 94 = .ok (.iinc 4 1, 3) := by decide +kernel
theorem dX8_isGate_97 : decode cX8_isGate 97 = .ok (.goto (-88), 3) := by decide +kernel
theorem dX8_isGate_100 : decode cX8_isGate 100 = .ok (.iconst 1, 1) := by decide +kernel
theorem dX8_isGate_101 : decode cX8_isGate 101 = .ok (.ireturn, 1) := by decide +kernel
theorem dX8_findOthers_0 : decode cX8_findOthers 0 = .ok (.aload_n 0, 1) := by decide +kernel
theorem dX8_findOthers_1 : decode cX8_findOthers 1 = .ok (.getfield 17, 3) := by decide +kernel
theorem dX8_findOthers_4 : decode cX8_findOthers 4 = .ok (.aload_n 0, 1) := by decide +kernel
theorem dX8_findOthers_5 : decode cX8_findOthers 5 = .ok (.getfield 24, 3) := by decide +kernel
theorem dX8_findOthers_8 : decode cX8_findOthers 8 = .ok (.iconst 0, 1) := by decide +kernel
theorem dX8_findOthers_9 : decode cX8_findOthers 9 = .ok (.iaload, 1) := by decide +kernel
theorem dX8_findOthers_10 : decode cX8_findOthers 10 = .ok (.iaload, 1) := by decide +kernel
theorem dX8_findOthers_11 : decode cX8_findOthers 11 = .ok (.aload_n 0, 1) := by decide +kernel
theorem dX8_findOthers_12 : decode cX8_findOthers 12 = .ok (.getfield 17, 3) := by decide +kernel
theorem dX8_findOthers_15 : decode cX8_findOthers 15 = .ok (.aload_n 0, 1) := by decide +kernel
theorem dX8_findOthers_16 : decode cX8_findOthers 16 = .ok (.getfield 24, 3) := by decide +kernel
theorem dX8_findOthers_19 : decode cX8_findOthers 19 = .ok (.iconst 1, 1) := by decide +kernel
theorem dX8_findOthers_20 : decode cX8_findOthers 20 = .ok (.iaload, 1) := by decide +kernel
theorem dX8_findOthers_21 : decode cX8_findOthers 21 = .ok (.iaload, 1) := by decide +kernel
theorem dX8_findOthers_22 : decode cX8_findOthers 22 = .ok (.iadd, 1) := by decide +kernel
theorem dX8_findOthers_23 : decode cX8_findOthers 23 = .ok (.istore 4, 2) := by decide +kernel
theorem dX8_findOthers_25 : decode cX8_findOthers 25 = .ok (.iconst 0, 1) := by decide +kernel
theorem dX8_findOthers_26 : decode cX8_findOthers 26 = .ok (.istore 5, 2) := by decide +kernel
theorem dX8_findOthers_28 : decode cX8_findOthers 28 = .ok (.iload 5, 2) := by decide +kernel
theorem dX8_findOthers_30 : decode cX8_findOthers 30 = .ok (.iconst 1, 1) := by decide +kernel
theorem dX8_findOthers_31 : decode cX8_findOthers 31 = .ok (.iload_n 3, 1) := by decide +kernel
theorem dX8_findOthers_32 : decode cX8_findOthers 32 = .ok (.ishl, 1) := by decide +kernel
theorem dX8_findOthers_33 : decode cX8_findOthers 33 = .ok (.if_icmp .ge 82, 3) := by decide +kernel
theorem dX8_findOthers_36 : decode cX8_findOthers 36 = .ok (.iload 5, 2) := by decide +kernel
theorem dX8_findOthers_38 : decode cX8_findOthers 38 = .ok (.istore 6, 2) := by decide +kernel
theorem dX8_findOthers_40 : decode cX8_findOthers 40 = .ok (.iload 6, 2) := by decide +kernel
theorem dX8_findOthers_42 : decode cX8_findOthers 42 = .ok (.iconst 1, 1) := by decide +kernel
theorem dX8_findOthers_43 : decode cX8_findOthers 43 = .ok (.iload_n 3, 1) := by decide +kernel
theorem dX8_findOthers_44 : decode cX8_findOthers 44 = .ok (.ishl, 1) := by decide +kernel
theorem dX8_findOthers_45 : decode cX8_findOthers 45 = .ok (.if_icmp .ge 64, 3) := by decide +kernel
theorem dX8_findOthers_48 : decode cX8_findOthers 48 = .ok (.lload_n 1, 1) := by decide +kernel
theorem dX8_findOthers_49 : decode cX8_findOthers 49 = .ok (.iload 5, 2) := by decide +kernel
theorem dX8_findOthers_51 : decode cX8_findOthers 51 = .ok (.invokestatic 80, 3) := by decide +kernel
theorem dX8_findOthers_54 : decode cX8_findOthers 54 = .ok (.ifCond .ne 55, 3) := by decide +kernel
theorem dX8_findOthers_57 : decode cX8_findOthers 57 = .ok (.lload_n 1, 1) := by decide +kernel
theorem dX8_findOthers_58 : decode cX8_findOthers 58 = .ok (.iload 6, 2) := by decide +kernel
theorem dX8_findOthers_60 : decode cX8_findOthers 60 = .ok (.invokestatic 80, 3) := by decide +kernel
theorem dX8_findOthers_63 : decode cX8_findOthers 63 = .ok (.ifCond .ne 40, 3) := by decide +kernel
theorem dX8_findOthers_66 : decode cX8_findOthers 66 = .ok (.aload_n 0, 1) := by decide +kernel
theorem dX8_findOthers_67 : decode cX8_findOthers 67 = .ok (.getfield 17, 3) := by decide +kernel
theorem dX8_findOthers_70 : decode cX8_findOthers 70 = .ok (.iload 5, 2) := by decide +kernel
theorem dX8_findOthers_72 : decode cX8_findOthers 72 = .ok (.iaload, 1) := by decide +kernel
theorem dX8_findOthers_73 : decode cX8_findOthers 73 = .ok (.aload_n 0, 1) := by decide +kernel
theorem dX8_findOthers_74 : decode cX8_findOthers 74 = .ok (.getfield 17, 3) := by decide +kernel
theorem dX8_findOthers_77 : decode cX8_findOthers 77 = .ok (.iload 6, 2) := by decide +kernel
theorem dX8_findOthers_79 : decode cX8_findOthers 79 = .ok (.iaload, 1) := by decide +kernel
theorem dX8_findOthers_80 : decode cX8_findOthers 80 = .ok (.iadd, 1) := by decide +kernel
theorem dX8_findOthers_81 : decode cX8_findOthers 81 = .ok (.iload 4, 2) := by decide +kernel
theorem dX8_findOthers_83 : decode cX8_findOthers 83 = .ok (.if_icmp .ne 20, 3) := by decide +kernel
theorem dX8_findOthers_86 : decode cX8_findOthers 86 = .ok (.aload_n 0, 1) := by decide +kernel
theorem dX8_findOthers_87 : decode cX8_findOthers 87 = .ok (.getfield 24, 3) := by decide +kernel
theorem dX8_findOthers_90 : decode cX8_findOthers 90 = .ok (.iconst 2, 1) := by decide +kernel
theorem dX8_findOthers_91 : decode cX8_findOthers 91 = .ok (.iload 5, 2) := by decide +kernel
theorem dX8_findOthers_93 : decode cX8_findOthers 93 = .ok (.iastore, 1) := by decide +kernel
theorem dX8_findOthers_94 : decode cX8_findOthers 94 = .ok (.aload_n 0, 1) := by decide +kernel
theorem dX8_findOthers_95 : decode cX8_findOthers 95 = .ok (.getfield 24, 3) := by decide +kernel
theorem dX8_findOthers_98 : decode cX8_findOthers 98 = .ok (.iconst 3, 1) := by decide +kernel
theorem dX8_findOthers_99 : decode cX8_findOthers 99 = .ok (.iload 6, 2) := by decide +kernel
theorem dX8_findOthers_101 : decode cX8_findOthers 101 = .ok (.iastore, 1) := by decide +kernel
theorem dX8_findOthers_102 : decode cX8_findOthers 102 = .ok (.return_, 1) := by decide +kernel
theorem dX8_findOthers_103 : decode cX8_findOthers 103 = .ok (.iinc 6 1, 3) := by decide +kernel
theorem dX8_findOthers_106 : decode cX8_findOthers 106 = .ok (.goto (-66), 3) := by decide +kernel
theorem dX8_findOthers_109 : decode cX8_findOthers 109 = .ok (.iinc 5 1, 3) := by decide +kernel
theorem dX8_findOthers_112 : decode cX8_findOthers 112 = .ok (.goto (-84), 3) := by decide +kernel
theorem dX8_findOthers_115 : decode cX8_findOthers 115 = .ok (.return_, 1) := by decide +kernel
theorem dX8_next_0 : decode cX8_next 0 = .ok (.aload_n 0, 1) := by decide +kernel
theorem dX8_next_1 : decode cX8_next 1 = .ok (.getfield 33, 3) := by decide +kernel
theorem dX8_next_4 : decode cX8_next 4 = .ok (.iload_n 1, 1) := by decide +kernel
theorem dX8_next_5 : decode cX8_next 5 = .ok (.iconst 1, 1) := by decide +kernel
theorem dX8_next_6 : decode cX8_next 6 = .ok (.isub, 1) := by decide +kernel
theorem dX8_next_7 : decode cX8_next 7 = .ok (.iaload, 1) := by decide +kernel
theorem dX8_next_8 : decode cX8_next 8 = .ok (.istore_n 3, 1) := by decide +kernel
theorem dX8_next_9 : decode cX8_next 9 = .ok (.iload_n 1, 1) := by decide +kernel
theorem dX8_next_10 : decode cX8_next 10 = .ok (.iconst 2, 1) := by decide +kernel
theorem dX8_next_11 : decode cX8_next 11 = .ok (.isub, 1) := by decide +kernel
theorem dX8_next_12 : decode cX8_next 12 = .ok (.istore 4, 2) := by decide +kernel
theorem dX8_next_14 : decode cX8_next 14 = .ok (.iload 4, 2) := by decide +kernel
theorem dX8_next_16 : decode cX8_next 16 = .ok (.ifCond .lt 23, 3) := by decide +kernel
theorem dX8_next_19 : decode cX8_next 19 = .ok (.iload_n 3, 1) := by decide +kernel
theorem dX8_next_20 : decode cX8_next 20 = .ok (.ifCond .ne 19, 3) := by decide +kernel
theorem dX8_next_23 : decode cX8_next 23 = .ok (.iload_n 3, 1) := by decide +kernel
theorem dX8_next_24 : decode cX8_next 24 = .ok (.aload_n 0, 1) := by decide +kernel
theorem dX8_next_25 : decode cX8_next 25 = .ok (.getfield 33, 3) := by decide +kernel
theorem dX8_next_28 : decode cX8_next 28 = .ok (.iload 4, 2) := by decide +kernel
theorem dX8_next_30 : decode cX8_next 30 = .ok (.iaload, 1) := by decide +kernel
theorem dX8_next_31 : decode cX8_next 31 = .ok (.iadd, 1) := by decide +kernel
theorem dX8_next_32 : decode cX8_next 32 = .ok (.istore_n 3, 1) := by decide +kernel
theorem dX8_next_33 : decode cX8_next 33 = .ok (.iinc 4 (-1), 3) := by decide +kernel
theorem dX8_next_36 : decode cX8_next 36 = .ok (.goto (-22), 3) := by decide +kernel
theorem dX8_next_39 : decode cX8_next 39 = .ok (.iload 4, 2) := by decide +kernel
theorem dX8_next_41 : decode cX8_next 41 = .ok (.ifCond .ge 5, 3) := by decide +kernel
theorem dX8_next_44 : decode cX8_next 44 = .ok (.iconst 0, 1) := by decide +kernel
theorem dX8_next_45 : decode cX8_next 45 = .ok (.ireturn, 1) := by decide +kernel
theorem dX8_next_46 : decode cX8_next 46 = .ok (.aload_n 0, 1) := by decide +kernel
theorem dX8_next_47 : decode cX8_next 47 = .ok (.getfield 33, 3) := by decide +kernel
theorem dX8_next_50 : decode cX8_next 50 = .ok (.iload 4, 2) := by decide +kernel
theorem dX8_next_52 : decode cX8_next 52 = .ok (.dup2, 1) := by decide +kernel
theorem dX8_next_53 : decode cX8_next 53 = .ok (.iaload, 1) := by decide +kernel
theorem dX8_next_54 : decode cX8_next 54 = .ok (.iconst 1, 1) := by decide +kernel
theorem dX8_next_55 : decode cX8_next 55 = .ok (.iadd, 1) := by decide +kernel
theorem dX8_next_56 : decode cX8_next 56 = .ok (.iastore, 1) := by decide +kernel
theorem dX8_next_57 : decode cX8_next 57 = .ok (.iload_n 2, 1) := by decide +kernel
theorem dX8_next_58 : decode cX8_next 58 = .ok (.istore 5, 2) := by decide +kernel
theorem dX8_next_60 : decode cX8_next 60 = .ok (.iconst 0, 1) := by decide +kernel
theorem dX8_next_61 : decode cX8_next 61 = .ok (.istore 6, 2) := by decide +kernel
theorem dX8_next_63 : decode cX8_next 63 = .ok (.iload 6, 2) := by decide +kernel
theorem dX8_next_65 : decode cX8_next 65 = .ok (.iload 4, 2) := by decide +kernel
theorem dX8_next_67 : decode cX8_next 67 = .ok (.if_icmp .gt 21, 3) := by decide +kernel
theorem dX8_next_70 : decode cX8_next 70 = .ok (.iload 5, 2) := by decide +kernel
theorem dX8_next_72 : decode cX8_next 72 = .ok (.aload_n 0, 1) := by decide +kernel
theorem dX8_next_73 : decode cX8_next 73 = .ok (.getfield 33, 3) := by decide +kernel
theorem dX8_next_76 : decode cX8_next 76 = .ok (.iload 6, 2) := by decide +kernel
theorem dX8_next_78 : decode cX8_next 78 = .ok (.iaload, 1) := by decide +kernel
theorem dX8_next_79 : decode cX8_next 79 = .ok (.isub, 1) := by decide +kernel
theorem dX8_next_80 : decode cX8_next 80 = .ok (.istore 5, 2) := by decide +kernel
theorem dX8_next_82 : decode cX8_next 82 = .ok (.iinc 6 1, 3) := by decide +kernel
theorem dX8_next_85 : decode cX8_next 85 = .ok (.goto (-22), 3) := by decide +kernel
theorem dX8_next_88 : decode cX8_next 88 = .ok (.iload 4, 2) := by decide +kernel
theorem dX8_next_90 : decode cX8_next 90 = .ok (.iconst 1, 1) := by decide +kernel
theorem dX8_next_91 : decode cX8_next 91 = .ok (.iadd, 1) := by decide +kernel
theorem dX8_next_92 : decode cX8_next 92 = .ok (.istore 6, 2) := by decide +kernel
theorem dX8_next_94 : decode cX8_next 94 = .ok (.iload 6, 2) := by decide +kernel
theorem dX8_next_96 : decode cX8_next 96 = .ok (.iload_n 1, 1) := by decide +kernel
theorem dX8_next_97 : decode cX8_next 97 = .ok (.iconst 1, 1) := by decide +kernel
theorem dX8_next_98 : decode cX8_next 98 = .ok (.isub, 1) := by decide +kernel
theorem dX8_next_99 : decode cX8_next 99 = .ok (.if_icmp .ge 17, 3) := by decide +kernel
theorem dX8_next_102 : decode cX8_next 102 = .ok (.aload_n 0, 1) := by decide +kernel
theorem dX8_next_103 : decode cX8_next 103 = .ok (.getfield 33, 3) := by decide +kernel
theorem dX8_next_106 : decode cX8_next 106 = .ok (.iload 6, 2) := by decide +kernel
theorem dX8_next_108 : decode cX8_next 108 = .ok (.iconst 0, 1) := by decide +kernel
theorem dX8_next_109 : decode cX8_next 109 = .ok (.iastore, 1) := by decide +kernel
theorem dX8_next_110 : decode cX8_next 110 = .ok (.iinc 6 1, 3) := by decide +kernel
theorem dX8_next_113 : decode cX8_next 113 = .ok (.goto (-19), 3) := by decide +kernel
theorem dX8_next_116 : decode cX8_next 116 = .ok (.aload_n 0, 1) := by decide +kernel
theorem dX8_next_117 : decode cX8_next 117 = .ok (.getfield 33, 3) := by decide +kernel
theorem dX8_next_120 : decode cX8_next 120 = .ok (.iload_n 1, 1) := by decide +kernel
theorem dX8_next_121 : decode cX8_next 121 = .ok (.iconst 1, 1) := by decide +kernel
theorem dX8_next_122 : decode cX8_next 122 = .ok (.isub, 1) := by decide +kernel
theorem dX8_next_123 : decode cX8_next 123 = .ok (.iload 5, 2) := by decide +kernel
theorem dX8_next_125 : decode cX8_next 125 = .ok (.iastore, 1) := by decide +kernel
theorem dX8_next_126 : decode cX8_next 126 = .ok (.iconst 1, 1) := by decide +kernel
theorem dX8_next_127 : decode cX8_next 127 = .ok (.ireturn, 1) := by decide +kernel
theorem dX8_sumOf_0 : decode cX8_sumOf 0 = .ok (.iconst 0, 1) := by decide +kernel
theorem dX8_sumOf_1 : decode cX8_sumOf 1 = .ok (.istore_n 3, 1) := by decide +kernel
theorem dX8_sumOf_2 : decode cX8_sumOf 2 = .ok (.iconst 0, 1) := by decide +kernel
theorem dX8_sumOf_3 : decode cX8_sumOf 3 = .ok (.istore 4, 2) := by decide +kernel
theorem dX8_sumOf_5 : decode cX8_sumOf 5 = .ok (.iload 4, 2) := by decide +kernel
theorem dX8_sumOf_7 : decode cX8_sumOf 7 = .ok (.iload_n 2, 1) := by decide +kernel
theorem dX8_sumOf_8 : decode cX8_sumOf 8 = .ok (.if_icmp .ge 33, 3) := by decide +kernel
theorem dX8_sumOf_11 : decode cX8_sumOf 11 = .ok (.iload_n 3, 1) := by decide +kernel
theorem dX8_sumOf_12 : decode cX8_sumOf 12 = .ok (.iload_n 1, 1) := by decide +kernel
theorem dX8_sumOf_13 : decode cX8_sumOf 13 = .ok (.iload 4, 2) := by decide +kernel
theorem dX8_sumOf_15 : decode cX8_sumOf 15 = .ok (.ishr, 1) := by decide +kernel
theorem dX8_sumOf_16 : decode cX8_sumOf 16 = .ok (.iconst 1, 1) := by decide +kernel
theorem dX8_sumOf_17 : decode cX8_sumOf 17 = .ok (.iand, 1) := by decide +kernel
theorem dX8_sumOf_18 : decode cX8_sumOf 18 = .ok (.iconst 1, 1) := by decide +kernel
theorem dX8_sumOf_19 : decode cX8_sumOf 19 = .ok (.if_icmp .ne 13, 3) := by decide +kernel
theorem dX8_sumOf_22 : decode cX8_sumOf 22 = .ok (.aload_n 0, 1) := by decide +kernel
theorem dX8_sumOf_23 : decode cX8_sumOf 23 = .ok (.getfield 36, 3) := by decide +kernel
theorem dX8_sumOf_26 : decode cX8_sumOf 26 = .ok (.iload 4, 2) := by decide +kernel
theorem dX8_sumOf_28 : decode cX8_sumOf 28 = .ok (.iaload, 1) := by decide +kernel
theorem dX8_sumOf_29 : decode cX8_sumOf 29 = .ok (.goto 4, 3) := by decide +kernel
theorem dX8_sumOf_32 : decode cX8_sumOf 32 = .ok (.iconst 0, 1) := by decide +kernel
theorem dX8_sumOf_33 : decode cX8_sumOf 33 = .ok (.iadd, 1) := by decide +kernel
theorem dX8_sumOf_34 : decode cX8_sumOf 34 = .ok (.istore_n 3, 1) := by decide +kernel
theorem dX8_sumOf_35 : decode cX8_sumOf 35 = .ok (.iinc 4 1, 3) := by decide +kernel
theorem dX8_sumOf_38 : decode cX8_sumOf 38 = .ok (.goto (-33), 3) := by decide +kernel
theorem dX8_sumOf_41 : decode cX8_sumOf 41 = .ok (.iload_n 3, 1) := by decide +kernel
theorem dX8_sumOf_42 : decode cX8_sumOf 42 = .ok (.ireturn, 1) := by decide +kernel
theorem dX8_parts_0 : decode cX8_parts 0 = .ok (.sipush 1000, 3) := by decide +kernel
theorem dX8_parts_3 : decode cX8_parts 3 = .ok (.istore 5, 2) := by decide +kernel
theorem dX8_parts_5 : decode cX8_parts 5 = .ok (.sipush 1000, 3) := by decide +kernel
theorem dX8_parts_8 : decode cX8_parts 8 = .ok (.istore 6, 2) := by decide +kernel
theorem dX8_parts_10 : decode cX8_parts 10 = .ok (.sipush (-1000), 3) := by decide +kernel
theorem dX8_parts_13 : decode cX8_parts 13 = .ok (.istore 7, 2) := by decide +kernel
theorem dX8_parts_15 : decode cX8_parts 15 = .ok (.iconst 0, 1) := by decide +kernel
theorem dX8_parts_16 : decode cX8_parts 16 = .ok (.istore 8, 2) := by decide +kernel
theorem dX8_parts_18 : decode cX8_parts 18 = .ok (.iload 8, 2) := by decide +kernel
theorem dX8_parts_20 : decode cX8_parts 20 = .ok (.iload_n 3, 1) := by decide +kernel
theorem dX8_parts_21 : decode cX8_parts 21 = .ok (.if_icmp .ge 45, 3) := by decide +kernel
theorem dX8_parts_24 : decode cX8_parts 24 = .ok (.aload_n 0, 1) := by decide +kernel
theorem dX8_parts_25 : decode cX8_parts 25 = .ok (.getfield 36, 3) := by decide +kernel
theorem dX8_parts_28 : decode cX8_parts 28 = .ok (.iload 8, 2) := by decide +kernel
theorem dX8_parts_30 : decode cX8_parts 30 = .ok (.iload 4, 2) := by decide +kernel
theorem dX8_parts_32 : decode cX8_parts 32 = .ok (.iload 8, 2) := by decide +kernel
theorem dX8_parts_34 : decode cX8_parts 34 = .ok (.ishr, 1) := by decide +kernel
theorem dX8_parts_35 : decode cX8_parts 35 = .ok (.iconst 1, 1) := by decide +kernel
theorem dX8_parts_36 : decode cX8_parts 36 = .ok (.iand, 1) := by decide +kernel
theorem dX8_parts_37 : decode cX8_parts 37 = .ok (.iconst 1, 1) := by decide +kernel
theorem dX8_parts_38 : decode cX8_parts 38 = .ok (.if_icmp .ne 14, 3) := by decide +kernel
theorem dX8_parts_41 : decode cX8_parts 41 = .ok (.aload_n 0, 1) := by decide +kernel
theorem dX8_parts_42 : decode cX8_parts 42 = .ok (.getfield 33, 3) := by decide +kernel
theorem dX8_parts_45 : decode cX8_parts 45 = .ok (.iload 8, 2) := by decide +kernel
theorem dX8_parts_47 : decode cX8_parts 47 = .ok (.iaload, 1) := by decide +kernel
theorem dX8_parts_48 : decode cX8_parts 48 = .ok (.ineg, 1) := by decide +kernel
theorem dX8_parts_49 : decode cX8_parts 49 = .ok (.goto 10, 3) := by decide +kernel
theorem dX8_parts_52 : decode cX8_parts 52 = .ok (.aload_n 0, 1) := by decide +kernel
theorem dX8_parts_53 : decode cX8_parts 53 = .ok (.getfield 33, 3) := by decide +kernel
theorem dX8_parts_56 : decode cX8_parts 56 = .ok (.iload 8, 2) := by decide +kernel
theorem dX8_parts_58 : decode cX8_parts 58 = .ok (.iaload, 1) := by decide +kernel
theorem dX8_parts_59 : decode cX8_parts 59 = .ok (.iastore, 1) := by decide +kernel
theorem dX8_parts_60 : decode cX8_parts 60 = .ok (.iinc 8 1, 3) := by decide +kernel
theorem dX8_parts_63 : decode cX8_parts 63 = .ok (.goto (-45), 3) := by decide +kernel
theorem dX8_parts_66 : decode cX8_parts 66 = .ok (.iconst 0, 1) := by decide +kernel
theorem dX8_parts_67 : decode cX8_parts 67 = .ok (.istore 8, 2) := by decide +kernel
theorem dX8_parts_69 : decode cX8_parts 69 = .ok (.iload 8, 2) := by decide +kernel
theorem dX8_parts_71 : decode cX8_parts 71 = .ok (.iconst 1, 1) := by decide +kernel
theorem dX8_parts_72 : decode cX8_parts 72 = .ok (.iload_n 3, 1) := by decide +kernel
theorem dX8_parts_73 : decode cX8_parts 73 = .ok (.ishl, 1) := by decide +kernel
theorem dX8_parts_74 : decode cX8_parts 74 = .ok (.if_icmp .ge 78, 3) := by decide +kernel
theorem dX8_parts_77 : decode cX8_parts 77 = .ok (.aload_n 0, 1) := by decide +kernel
theorem dX8_parts_78 : decode cX8_parts 78 = .ok (.iload 8, 2) := by decide +kernel
theorem dX8_parts_80 : decode cX8_parts 80 = .ok (.iload_n 3, 1) := by decide +kernel
theorem dX8_parts_81 : decode cX8_parts 81 = .ok (.invokevirtual 129, 3) := by decide +kernel
theorem dX8_parts_84 : decode cX8_parts 84 = .ok (.istore 9, 2) := by decide +kernel
theorem dX8_parts_86 : decode cX8_parts 86 = .ok (.iload 9, 2) := by decide +kernel
theorem dX8_parts_88 : decode cX8_parts 88 = .ok (.iload 6, 2) := by decide +kernel
theorem dX8_parts_90 : decode cX8_parts 90 = .ok (.if_icmp .ge 8, 3) := by decide +kernel
theorem dX8_parts_93 : decode cX8_parts 93 = .ok (.iload 9, 2) := by decide +kernel
theorem dX8_parts_95 : decode cX8_parts 95 = .ok (.goto 5, 3) := by decide +kernel
theorem dX8_parts_98 : decode cX8_parts 98 = .ok (.iload 6, 2) := by decide +kernel
theorem dX8_parts_100 : decode cX8_parts 100 = .ok (.istore 6, 2) := by decide +kernel
theorem dX8_parts_102 : decode cX8_parts 102 = .ok (.lload_n 1, 1) := by decide +kernel
theorem dX8_parts_103 : decode cX8_parts 103 = .ok (.iload 8, 2) := by decide +kernel
theorem dX8_parts_105 : decode cX8_parts 105 = .ok (.invokestatic 80, 3) := by decide +kernel
theorem dX8_parts_108 : decode cX8_parts 108 = .ok (.ifCond .eq 22, 3) := by decide +kernel
theorem dX8_parts_111 : decode cX8_parts 111 = .ok (.iload 9, 2) := by decide +kernel
theorem dX8_parts_113 : decode cX8_parts 113 = .ok (.iload 5, 2) := by decide +kernel
theorem dX8_parts_115 : decode cX8_parts 115 = .ok (.if_icmp .ge 8, 3) := by decide +kernel
theorem dX8_parts_118 : decode cX8_parts 118 = .ok (.iload 9, 2) := by decide +kernel
theorem dX8_parts_120 : decode cX8_parts 120 = .ok (.goto 5, 3) := by decide +kernel
theorem dX8_parts_123 : decode cX8_parts 123 = .ok (.iload 5, 2) := by decide +kernel
theorem dX8_parts_125 : decode cX8_parts 125 = .ok (.istore 5, 2) := by decide +kernel
theorem dX8_parts_127 : decode cX8_parts 127 = .ok (.goto 19, 3) := by decide +kernel
theorem dX8_parts_130 : decode cX8_parts 130 = .ok (.iload 9, 2) := by decide +kernel
theorem dX8_parts_132 : decode cX8_parts 132 = .ok (.iload 7, 2) := by decide +kernel
theorem dX8_parts_134 : decode cX8_parts 134 = .ok (.if_icmp .le 8, 3) := by decide +kernel
theorem dX8_parts_137 : decode cX8_parts 137 = .ok (.iload 9, 2) := by decide +kernel
theorem dX8_parts_139 : decode cX8_parts 139 = .ok (.goto 5, 3) := by decide +kernel
theorem dX8_parts_142 : decode cX8_parts 142 = .ok (.iload 7, 2) := by decide +kernel
theorem dX8_parts_144 : decode cX8_parts 144 = .ok (.istore 7, 2) := by decide +kernel
theorem dX8_parts_146 : decode cX8_parts 146 = .ok (.iinc 8 1, 3) := by decide +kernel
theorem dX8_parts_149 : decode cX8_parts 149 = .ok (.goto (-80), 3) := by decide +kernel
theorem dX8_parts_152 : decode cX8_parts 152 = .ok (.aload_n 0, 1) := by decide +kernel
theorem dX8_parts_153 : decode cX8_parts 153 = .ok (.iload 7, 2) := by decide +kernel
theorem dX8_parts_155 : decode cX8_parts 155 = .ok (.sipush (-1000), 3) := by decide +kernel
theorem dX8_parts_158 : decode cX8_parts 158 = .ok (.if_icmp .ne 8, 3) := by decide +kernel
theorem dX8_parts_161 : decode cX8_parts 161 = .ok (.iload 6, 2) := by decide +kernel
theorem dX8_parts_163 : decode cX8_parts 163 = .ok (.goto 7, 3) := by decide +kernel
theorem dX8_parts_166 : decode cX8_parts 166 = .ok (.iload 7, 2) := by decide +kernel
theorem dX8_parts_168 : decode cX8_parts 168 = .ok (.iconst 1, 1) := by decide +kernel
theorem dX8_parts_169 : decode cX8_parts 169 = .ok (.iadd, 1) := by decide +kernel
theorem dX8_parts_170 : decode cX8_parts 170 = .ok (.putfield 133, 3) := by decide +kernel
theorem dX8_parts_173 : decode cX8_parts 173 = .ok (.iload 5, 2) := by decide +kernel
theorem dX8_parts_175 : decode cX8_parts 175 = .ok (.iload 7, 2) := by decide +kernel
theorem dX8_parts_177 : decode cX8_parts 177 = .ok (.if_icmp .le 7, 3) := by decide +kernel
theorem dX8_parts_180 : decode cX8_parts 180 = .ok (.iconst 1, 1) := by decide +kernel
theorem dX8_parts_181 : decode cX8_parts 181 = .ok (.goto 4, 3) := by decide +kernel
theorem dX8_parts_184 : decode cX8_parts 184 = .ok (.iconst 0, 1) := by decide +kernel
theorem dX8_parts_185 : decode cX8_parts 185 = .ok (.ireturn, 1) := by decide +kernel
theorem dX8_falling_0 : decode cX8_falling 0 = .ok (.iconst 0, 1) := by decide +kernel
theorem dX8_falling_1 : decode cX8_falling 1 = .ok (.istore 4, 2) := by decide +kernel
theorem dX8_falling_3 : decode cX8_falling 3 = .ok (.iconst 0, 1) := by decide +kernel
theorem dX8_falling_4 : decode cX8_falling 4 = .ok (.istore 5, 2) := by decide +kernel
theorem dX8_falling_6 : decode cX8_falling 6 = .ok (.iload 5, 2) := by decide +kernel
theorem dX8_falling_8 : decode cX8_falling 8 = .ok (.iload_n 3, 1) := by decide +kernel
theorem dX8_falling_9 : decode cX8_falling 9 = .ok (.if_icmp .ge 84, 3) := by decide +kernel
theorem dX8_falling_12 : decode cX8_falling 12 = .ok (.iconst 0, 1) := by decide +kernel
theorem dX8_falling_13 : decode cX8_falling 13 = .ok (.istore 6, 2) := by decide +kernel
theorem dX8_falling_15 : decode cX8_falling 15 = .ok (.iload 6, 2) := by decide +kernel
theorem dX8_falling_17 : decode cX8_falling 17 = .ok (.iconst 1, 1) := by decide +kernel
theorem dX8_falling_18 : decode cX8_falling 18 = .ok (.iload_n 3, 1) := by decide +kernel
theorem dX8_falling_19 : decode cX8_falling 19 = .ok (.ishl, 1) := by decide +kernel
theorem dX8_falling_20 : decode cX8_falling 20 = .ok (.if_icmp .ge 67, 3) := by decide +kernel
theorem dX8_falling_23 : decode cX8_falling 23 = .ok (.iload 6, 2) := by decide +kernel
theorem dX8_falling_25 : decode cX8_falling 25 = .ok (.iload 5, 2) := by decide +kernel
theorem dX8_falling_27 : decode cX8_falling 27 = .ok (.ishr, 1) := by decide +kernel
theorem dX8_falling_28 : decode cX8_falling 28 = .ok (.iconst 1, 1) := by decide +kernel
theorem dX8_falling_29 : decode cX8_falling 29 = .ok (.iand, 1) := by decide +kernel
theorem dX8_falling_30 : decode cX8_falling 30 = .ok (.ifCond .ne 30, 3) := by decide +kernel
theorem dX8_falling_33 : decode cX8_falling 33 = .ok (.lload_n 1, 1) := by decide +kernel
theorem dX8_falling_34 : decode cX8_falling 34 = .ok (.iload 6, 2) := by decide +kernel
theorem dX8_falling_36 : decode cX8_falling 36 = .ok (.invokestatic 80, 3) := by decide +kernel
theorem dX8_falling_39 : decode cX8_falling 39 = .ok (.ifCond .eq 21, 3) := by decide +kernel
theorem dX8_falling_42 : decode cX8_falling 42 = .ok (.lload_n 1, 1) := by decide +kernel
theorem dX8_falling_43 : decode cX8_falling 43 = .ok (.iload 6, 2) := by decide +kernel
theorem dX8_falling_45 : decode cX8_falling 45 = .ok (.iconst 1, 1) := by decide +kernel
theorem dX8_falling_46 : decode cX8_falling 46 = .ok (.iload 5, 2) := by decide +kernel
theorem dX8_falling_48 : decode cX8_falling 48 = .ok (.ishl, 1) := by decide +kernel
theorem dX8_falling_49 : decode cX8_falling 49 = .ok (.ior, 1) := by decide +kernel
theorem dX8_falling_50 : decode cX8_falling 50 = .ok (.invokestatic 80, 3) := by decide +kernel
theorem dX8_falling_53 : decode cX8_falling 53 = .ok (.ifCond .ne 7, 3) := by decide +kernel
theorem dX8_falling_56 : decode cX8_falling 56 = .ok (.iconst 1, 1) := by decide +kernel
theorem dX8_falling_57 : decode cX8_falling 57 = .ok (.goto 4, 3) := by decide +kernel
theorem dX8_falling_60 : decode cX8_falling 60 = .ok (.iconst 0, 1) := by decide +kernel
theorem dX8_falling_61 : decode cX8_falling 61 = .ok (.istore 7, 2) := by decide +kernel
theorem dX8_falling_63 : decode cX8_falling 63 = .ok (.iload 4, 2) := by decide +kernel
theorem dX8_falling_65 : decode cX8_falling 65 = .ok (.iload 7, 2) := by decide +kernel
theorem dX8_falling_67 : decode cX8_falling 67 = .ok (.ifCond .eq 10, 3) := by decide +kernel
theorem dX8_falling_70 : decode cX8_falling 70 = .ok (.iconst 1, 1) := by decide +kernel
theorem dX8_falling_71 : decode cX8_falling 71 = .ok (.iload 5, 2) := by decide +kernel
theorem dX8_falling_73 : decode cX8_falling 73 = .ok (.ishl, 1) := by decide +kernel
theorem dX8_falling_74 : decode cX8_falling 74 = .ok (.goto 4, 3) := by decide +kernel
theorem dX8_falling_77 : decode cX8_falling 77 = .ok (.iconst 0, 1) := by decide +kernel
theorem dX8_falling_78 : decode cX8_falling 78 = .ok (.ior, 1) := by decide +kernel
theorem dX8_falling_79 : decode cX8_falling 79 = .ok (.istore 4, 2) := by decide +kernel
theorem dX8_falling_81 : decode cX8_falling 81 = .ok (.iinc 6 1, 3) := by decide +kernel
theorem dX8_falling_84 : decode cX8_falling 84 = .ok (.goto (-69), 3) := by decide +kernel
theorem dX8_falling_87 : decode cX8_falling 87 = .ok (.iinc 5 1, 3) := by decide +kernel
theorem dX8_falling_90 : decode cX8_falling 90 = .ok (.goto (-84), 3) := by decide +kernel
theorem dX8_falling_93 : decode cX8_falling 93 = .ok (.iload 4, 2) := by decide +kernel
theorem dX8_falling_95 : decode cX8_falling 95 = .ok (.ireturn, 1) := by decide +kernel
theorem dX8_solve_0 : decode cX8_solve 0 = .ok (.aload_n 0, 1) := by decide +kernel
theorem dX8_solve_1 : decode cX8_solve 1 = .ok (.getfield 29, 3) := by decide +kernel
theorem dX8_solve_4 : decode cX8_solve 4 = .ok (.lload_n 1, 1) := by decide +kernel
theorem dX8_solve_5 : decode cX8_solve 5 = .ok (.lcmp, 1) := by decide +kernel
theorem dX8_solve_6 : decode cX8_solve 6 = .ok (.ifCond .ne 12, 3) := by decide +kernel
theorem dX8_solve_9 : decode cX8_solve 9 = .ok (.aload_n 0, 1) := by decide +kernel
theorem dX8_solve_10 : decode cX8_solve 10 = .ok (.getfield 136, 3) := by decide +kernel
theorem dX8_solve_13 : decode cX8_solve 13 = .ok (.iload_n 3, 1) := by decide +kernel
theorem dX8_solve_14 : decode cX8_solve 14 = .ok (.if_icmp .ne 4, 3) := by decide +kernel
theorem dX8_solve_17 : decode cX8_solve 17 = .ok (.return_, 1) := by decide +kernel
theorem dX8_solve_18 : decode cX8_solve 18 = .ok (.aload_n 0, 1) := by decide +kernel
theorem dX8_solve_19 : decode cX8_solve 19 = .ok (.lload_n 1, 1) := by decide +kernel
theorem dX8_solve_20 : decode cX8_solve 20 = .ok (.putfield 29, 3) := by decide +kernel
theorem dX8_solve_23 : decode cX8_solve 23 = .ok (.aload_n 0, 1) := by decide +kernel
theorem dX8_solve_24 : decode cX8_solve 24 = .ok (.iload_n 3, 1) := by decide +kernel
theorem dX8_solve_25 : decode cX8_solve 25 = .ok (.putfield 136, 3) := by decide +kernel
theorem dX8_solve_28 : decode cX8_solve 28 = .ok (.aload_n 0, 1) := by decide +kernel
theorem dX8_solve_29 : decode cX8_solve 29 = .ok (.aload_n 0, 1) := by decide +kernel
theorem dX8_solve_30 : decode cX8_solve 30 = .ok (.lload_n 1, 1) := by decide +kernel
theorem dX8_solve_31 : decode cX8_solve 31 = .ok (.iload_n 3, 1) := by decide +kernel
theorem dX8_solve_32 : decode cX8_solve 32 = .ok (.invokevirtual 139, 3) := by decide +kernel
theorem dX8_solve_35 : decode cX8_solve 35 = .ok (.putfield 142, 3) := by decide +kernel
theorem dX8_solve_38 : decode cX8_solve 38 = .ok (.aload_n 0, 1) := by decide +kernel
theorem dX8_solve_39 : decode cX8_solve 39 = .ok (.getfield 142, 3) := by decide +kernel
theorem dX8_solve_42 : decode cX8_solve 42 = .ok (.ifCond .ne 10, 3) := by decide +kernel
theorem dX8_solve_45 : decode cX8_solve 45 = .ok (.aload_n 0, 1) := by decide +kernel
theorem dX8_solve_46 : decode cX8_solve 46 = .ok (.lload_n 1, 1) := by decide +kernel
theorem dX8_solve_47 : decode cX8_solve 47 = .ok (.iload_n 3, 1) := by decide +kernel
theorem dX8_solve_48 : decode cX8_solve 48 = .ok (.invokevirtual 146, 3) := by decide +kernel
theorem dX8_solve_51 : decode cX8_solve 51 = .ok (.return_, 1) := by decide +kernel
theorem dX8_solve_52 : decode cX8_solve 52 = .ok (.aload_n 0, 1) := by decide +kernel
theorem dX8_solve_53 : decode cX8_solve 53 = .ok (.lload_n 1, 1) := by decide +kernel
theorem dX8_solve_54 : decode cX8_solve 54 = .ok (.iload_n 3, 1) := by decide +kernel
theorem dX8_solve_55 : decode cX8_solve 55 = .ok (.invokevirtual 149, 3) := by decide +kernel
theorem dX8_solve_58 : decode cX8_solve 58 = .ok (.istore 4, 2) := by decide +kernel
theorem dX8_solve_60 : decode cX8_solve 60 = .ok (.iconst 0, 1) := by decide +kernel
theorem dX8_solve_61 : decode cX8_solve 61 = .ok (.istore 5, 2) := by decide +kernel
theorem dX8_solve_63 : decode cX8_solve 63 = .ok (.iconst 0, 1) := by decide +kernel
theorem dX8_solve_64 : decode cX8_solve 64 = .ok (.istore 6, 2) := by decide +kernel
theorem dX8_solve_66 : decode cX8_solve 66 = .ok (.iload 5, 2) := by decide +kernel
theorem dX8_solve_68 : decode cX8_solve 68 = .ok (.ifCond .ne 93, 3) := by decide +kernel
theorem dX8_solve_71 : decode cX8_solve 71 = .ok (.iconst 0, 1) := by decide +kernel
theorem dX8_solve_72 : decode cX8_solve 72 = .ok (.istore 7, 2) := by decide +kernel
theorem dX8_solve_74 : decode cX8_solve 74 = .ok (.iload 7, 2) := by decide +kernel
theorem dX8_solve_76 : decode cX8_solve 76 = .ok (.iload_n 3, 1) := by decide +kernel
theorem dX8_solve_77 : decode cX8_solve 77 = .ok (.if_icmp .ge 30, 3) := by decide +kernel
theorem dX8_solve_80 : decode cX8_solve 80 = .ok (.aload_n 0, 1) := by decide +kernel
theorem dX8_solve_81 : decode cX8_solve 81 = .ok (.getfield 33, 3) := by decide +kernel
theorem dX8_solve_84 : decode cX8_solve 84 = .ok (.iload 7, 2) := by decide +kernel
theorem dX8_solve_86 : decode cX8_solve 86 = .ok (.iload 7, 2) := by decide +kernel
theorem dX8_solve_88 : decode cX8_solve 88 = .ok (.iload_n 3, 1) := by decide +kernel
theorem dX8_solve_89 : decode cX8_solve 89 = .ok (.iconst 1, 1) := by decide +kernel
theorem dX8_solve_90 : decode cX8_solve 90 = .ok (.isub, 1) := by decide +kernel
theorem dX8_solve_91 : decode cX8_solve 91 = .ok (.if_icmp .ne 8, 3) := by decide +kernel
theorem dX8_solve_94 : decode cX8_solve 94 = .ok (.iload 6, 2) := by decide +kernel
theorem dX8_solve_96 : decode cX8_solve 96 = .ok (.goto 4, 3) := by decide +kernel
theorem dX8_solve_99 : decode cX8_solve 99 = .ok (.iconst 0, 1) := by decide +kernel
theorem dX8_solve_100 : decode cX8_solve 100 = .ok (.iastore, 1) := by decide +kernel
theorem dX8_solve_101 : decode cX8_solve 101 = .ok (.iinc 7 1, 3) := by decide +kernel
theorem dX8_solve_104 : decode cX8_solve 104 = .ok (.goto (-30), 3) := by decide +kernel
theorem dX8_solve_107 : decode cX8_solve 107 = .ok (.iconst 1, 1) := by decide +kernel
theorem dX8_solve_108 : decode cX8_solve 108 = .ok (.istore 7, 2) := by decide +kernel
theorem dX8_solve_110 : decode cX8_solve 110 = .ok (.iload 7, 2) := by decide +kernel
theorem dX8_solve_112 : decode cX8_solve 112 = .ok (.ifCond .eq 43, 3) := by decide +kernel
theorem dX8_solve_115 : decode cX8_solve 115 = .ok (.iload 5, 2) := by decide +kernel
theorem dX8_solve_117 : decode cX8_solve 117 = .ok (.ifCond .ne 38, 3) := by decide +kernel
theorem dX8_solve_120 : decode cX8_solve 120 = .ok (.aload_n 0, 1) := by decide +kernel
theorem dX8_solve_121 : decode cX8_solve 121 = .ok (.lload_n 1, 1) := by decide +kernel
theorem dX8_solve_122 : decode cX8_solve 122 = .ok (.iload_n 3, 1) := by decide +kernel
theorem dX8_solve_123 : decode cX8_solve 123 = .ok (.iload 4, 2) := by decide +kernel
theorem dX8_solve_125 : decode cX8_solve 125 = .ok (.invokevirtual 153, 3) := by decide +kernel
theorem dX8_solve_128 : decode cX8_solve 128 = .ok (.istore 5, 2) := by decide +kernel
theorem dX8_solve_130 : decode cX8_solve 130 = .ok (.iload 5, 2) := by decide +kernel
theorem dX8_solve_132 : decode cX8_solve 132 = .ok (.ifCond .ne 17, 3) := by decide +kernel
theorem dX8_solve_135 : decode cX8_solve 135 = .ok (.aload_n 0, 1) := by decide +kernel
theorem dX8_solve_136 : decode cX8_solve 136 = .ok (.iload_n 3, 1) := by decide +kernel
theorem dX8_solve_137 : decode cX8_solve 137 = .ok (.iload 6, 2) := by decide +kernel
theorem dX8_solve_139 : decode cX8_solve 139 = .ok (.invokevirtual 157, 3) := by decide +kernel
theorem dX8_solve_142 : decode cX8_solve 142 = .ok (.ifCond .eq 7, 3) := by decide +kernel
theorem dX8_solve_145 : decode cX8_solve 145 = .ok (.iconst 1, 1) := by decide +kernel
theorem dX8_solve_146 : decode cX8_solve 146 = .ok (.goto 4, 3) := by decide +kernel
theorem dX8_solve_149 : decode cX8_solve 149 = .ok (.iconst 0, 1) := by decide +kernel
theorem dX8_solve_150 : decode cX8_solve 150 = .ok (.istore 7, 2) := by decide +kernel
theorem dX8_solve_152 : decode cX8_solve 152 = .ok (.goto (-42), 3) := by decide +kernel
theorem dX8_solve_155 : decode cX8_solve 155 = .ok (.iinc 6 1, 3) := by decide +kernel
theorem dX8_solve_158 : decode cX8_solve 158 = .ok (.goto (-92), 3) := by decide +kernel
theorem dX8_solve_161 : decode cX8_solve 161 = .ok (.return_, 1) := by decide +kernel
theorem dX8_gate_0 : decode cX8_gate 0 = .ok (.iload_n 1, 1) := by decide +kernel
theorem dX8_gate_1 : decode cX8_gate 1 = .ok (.invokestatic 88, 3) := by decide +kernel
theorem dX8_gate_4 : decode cX8_gate 4 = .ok (.ifCond .ne 5, 3) := by decide +kernel
theorem dX8_gate_7 : decode cX8_gate 7 = .ok (.iconst (-1), 1) := by decide +kernel
theorem dX8_gate_8 : decode cX8_gate 8 = .ok (.ireturn, 1) := by decide +kernel
theorem dX8_gate_9 : decode cX8_gate 9 = .ok (.aload_n 0, 1) := by decide +kernel
theorem dX8_gate_10 : decode cX8_gate 10 = .ok (.aload_n 0, 1) := by decide +kernel
theorem dX8_gate_11 : decode cX8_gate 11 = .ok (.getfield 13, 3) := by decide +kernel
theorem dX8_gate_14 : decode cX8_gate 14 = .ok (.iload_n 1, 1) := by decide +kernel
theorem dX8_gate_15 : decode cX8_gate 15 = .ok (.laload, 1) := by decide +kernel
theorem dX8_gate_16 : decode cX8_gate 16 = .ok (.aload_n 0, 1) := by decide +kernel
theorem dX8_gate_17 : decode cX8_gate 17 = .ok (.getfield 7, 3) := by decide +kernel
theorem dX8_gate_20 : decode cX8_gate 20 = .ok (.iload_n 1, 1) := by decide +kernel
theorem dX8_gate_21 : decode cX8_gate 21 = .ok (.iaload, 1) := by decide +kernel
theorem dX8_gate_22 : decode cX8_gate 22 = .ok (.invokevirtual 160, 3) := by decide +kernel
theorem dX8_gate_25 : decode cX8_gate 25 = .ok (.aload_n 0, 1) := by decide +kernel
theorem dX8_gate_26 : decode cX8_gate 26 = .ok (.getfield 142, 3) := by decide +kernel
theorem dX8_gate_29 : decode cX8_gate 29 = .ok (.ifCond .eq 7, 3) := by decide +kernel
theorem dX8_gate_32 : decode cX8_gate 32 = .ok (.iconst 1, 1) := by decide +kernel
theorem dX8_gate_33 : decode cX8_gate 33 = .ok (.goto 4, 3) := by decide +kernel
theorem dX8_gate_36 : decode cX8_gate 36 = .ok (.iconst 0, 1) := by decide +kernel
theorem dX8_gate_37 : decode cX8_gate 37 = .ok (.ireturn, 1) := by decide +kernel
theorem dX8_weight_0 : decode cX8_weight 0 = .ok (.iload_n 1, 1) := by decide +kernel
theorem dX8_weight_1 : decode cX8_weight 1 = .ok (.invokestatic 88, 3) := by decide +kernel
theorem dX8_weight_4 : decode cX8_weight 4 = .ok (.ifCond .eq 12, 3) := by decide +kernel
theorem dX8_weight_7 : decode cX8_weight 7 = .ok (.aload_n 0, 1) := by decide +kernel
theorem dX8_weight_8 : decode cX8_weight 8 = .ok (.iload_n 1, 1) := by decide +kernel
theorem dX8_weight_9 : decode cX8_weight 9 = .ok (.iload_n 2, 1) := by decide +kernel
theorem dX8_weight_10 : decode cX8_weight 10 = .ok (.invokevirtual 113, 3) := by decide +kernel
theorem dX8_weight_13 : decode cX8_weight 13 = .ok (.ifCond .ne 5, 3) := by decide +kernel
theorem dX8_weight_16 : decode cX8_weight 16 = .ok (.iconst (-1), 1) := by decide +kernel
theorem dX8_weight_17 : decode cX8_weight 17 = .ok (.ireturn, 1) := by decide +kernel
theorem dX8_weight_18 : decode cX8_weight 18 = .ok (.aload_n 0, 1) := by decide +kernel
theorem dX8_weight_19 : decode cX8_weight 19 = .ok (.aload_n 0, 1) := by decide +kernel
theorem dX8_weight_20 : decode cX8_weight 20 = .ok (.getfield 13, 3) := by decide +kernel
theorem dX8_weight_23 : decode cX8_weight 23 = .ok (.iload_n 1, 1) := by decide +kernel
theorem dX8_weight_24 : decode cX8_weight 24 = .ok (.laload, 1) := by decide +kernel
theorem dX8_weight_25 : decode cX8_weight 25 = .ok (.aload_n 0, 1) := by decide +kernel
theorem dX8_weight_26 : decode cX8_weight 26 = .ok (.getfield 7, 3) := by decide +kernel
theorem dX8_weight_29 : decode cX8_weight 29 = .ok (.iload_n 1, 1) := by decide +kernel
theorem dX8_weight_30 : decode cX8_weight 30 = .ok (.iaload, 1) := by decide +kernel
theorem dX8_weight_31 : decode cX8_weight 31 = .ok (.invokevirtual 160, 3) := by decide +kernel
theorem dX8_weight_34 : decode cX8_weight 34 = .ok (.aload_n 0, 1) := by decide +kernel
theorem dX8_weight_35 : decode cX8_weight 35 = .ok (.getfield 142, 3) := by decide +kernel
theorem dX8_weight_38 : decode cX8_weight 38 = .ok (.ifCond .eq 12, 3) := by decide +kernel
theorem dX8_weight_41 : decode cX8_weight 41 = .ok (.aload_n 0, 1) := by decide +kernel
theorem dX8_weight_42 : decode cX8_weight 42 = .ok (.getfield 36, 3) := by decide +kernel
theorem dX8_weight_45 : decode cX8_weight 45 = .ok (.iload_n 2, 1) := by decide +kernel
theorem dX8_weight_46 : decode cX8_weight 46 = .ok (.iaload, 1) := by decide +kernel
theorem dX8_weight_47 : decode cX8_weight 47 = .ok (.goto 5, 3) := by decide +kernel
theorem dX8_weight_50 : decode cX8_weight 50 = .ok (.ldc 112, 2) := by decide +kernel
theorem dX8_weight_52 : decode cX8_weight 52 = .ok (.ireturn, 1) := by decide +kernel
theorem dX8_bound_0 : decode cX8_bound 0 = .ok (.iload_n 1, 1) := by decide +kernel
theorem dX8_bound_1 : decode cX8_bound 1 = .ok (.invokestatic 88, 3) := by decide +kernel
theorem dX8_bound_4 : decode cX8_bound 4 = .ok (.ifCond .ne 5, 3) := by decide +kernel
theorem dX8_bound_7 : decode cX8_bound 7 = .ok (.iconst (-1), 1) := by decide +kernel
theorem dX8_bound_8 : decode cX8_bound 8 = .ok (.ireturn, 1) := by decide +kernel
theorem dX8_bound_9 : decode cX8_bound 9 = .ok (.aload_n 0, 1) := by decide +kernel
theorem dX8_bound_10 : decode cX8_bound 10 = .ok (.aload_n 0, 1) := by decide +kernel
theorem dX8_bound_11 : decode cX8_bound 11 = .ok (.getfield 13, 3) := by decide +kernel
theorem dX8_bound_14 : decode cX8_bound 14 = .ok (.iload_n 1, 1) := by decide +kernel
theorem dX8_bound_15 : decode cX8_bound 15 = .ok (.laload, 1) := by decide +kernel
theorem dX8_bound_16 : decode cX8_bound 16 = .ok (.aload_n 0, 1) := by decide +kernel
theorem dX8_bound_17 : decode cX8_bound 17 = .ok (.getfield 7, 3) := by decide +kernel
theorem dX8_bound_20 : decode cX8_bound 20 = .ok (.iload_n 1, 1) := by decide +kernel
theorem dX8_bound_21 : decode cX8_bound 21 = .ok (.iaload, 1) := by decide +kernel
theorem dX8_bound_22 : decode cX8_bound 22 = .ok (.invokevirtual 160, 3) := by decide +kernel
theorem dX8_bound_25 : decode cX8_bound 25 = .ok (.aload_n 0, 1) := by decide +kernel
theorem dX8_bound_26 : decode cX8_bound 26 = .ok (.getfield 142, 3) := by decide +kernel
theorem dX8_bound_29 : decode cX8_bound 29 = .ok (.ifCond .eq 10, 3) := by decide +kernel
theorem dX8_bound_32 : decode cX8_bound 32 = .ok (.aload_n 0, 1) := by decide +kernel
theorem dX8_bound_33 : decode cX8_bound 33 = .ok (.getfield 133, 3) := by decide +kernel
theorem dX8_bound_36 : decode cX8_bound 36 = .ok (.goto 5, 3) := by decide +kernel
theorem dX8_bound_39 : decode cX8_bound 39 = .ok (.ldc 112, 2) := by decide +kernel
theorem dX8_bound_41 : decode cX8_bound 41 = .ok (.ireturn, 1) := by decide +kernel
theorem dX8_size_0 : decode cX8_size 0 = .ok (.iload_n 1, 1) := by decide +kernel
theorem dX8_size_1 : decode cX8_size 1 = .ok (.invokestatic 88, 3) := by decide +kernel
theorem dX8_size_4 : decode cX8_size 4 = .ok (.ifCond .ne 5, 3) := by decide +kernel
theorem dX8_size_7 : decode cX8_size 7 = .ok (.iconst (-1), 1) := by decide +kernel
theorem dX8_size_8 : decode cX8_size 8 = .ok (.ireturn, 1) := by decide +kernel
theorem dX8_size_9 : decode cX8_size 9 = .ok (.aload_n 0, 1) := by decide +kernel
theorem dX8_size_10 : decode cX8_size 10 = .ok (.aload_n 0, 1) := by decide +kernel
theorem dX8_size_11 : decode cX8_size 11 = .ok (.getfield 13, 3) := by decide +kernel
theorem dX8_size_14 : decode cX8_size 14 = .ok (.iload_n 1, 1) := by decide +kernel
theorem dX8_size_15 : decode cX8_size 15 = .ok (.laload, 1) := by decide +kernel
theorem dX8_size_16 : decode cX8_size 16 = .ok (.aload_n 0, 1) := by decide +kernel
theorem dX8_size_17 : decode cX8_size 17 = .ok (.getfield 7, 3) := by decide +kernel
theorem dX8_size_20 : decode cX8_size 20 = .ok (.iload_n 1, 1) := by decide +kernel
theorem dX8_size_21 : decode cX8_size 21 = .ok (.iaload, 1) := by decide +kernel
theorem dX8_size_22 : decode cX8_size 22 = .ok (.invokevirtual 160, 3) := by decide +kernel
theorem dX8_size_25 : decode cX8_size 25 = .ok (.iconst 0, 1) := by decide +kernel
theorem dX8_size_26 : decode cX8_size 26 = .ok (.istore_n 2, 1) := by decide +kernel
theorem dX8_size_27 : decode cX8_size 27 = .ok (.iconst 0, 1) := by decide +kernel
theorem dX8_size_28 : decode cX8_size 28 = .ok (.istore_n 3, 1) := by decide +kernel
theorem dX8_size_29 : decode cX8_size 29 = .ok (.iload_n 3, 1) := by decide +kernel
theorem dX8_size_30 : decode cX8_size 30 = .ok (.aload_n 0, 1) := by decide +kernel
theorem dX8_size_31 : decode cX8_size 31 = .ok (.getfield 7, 3) := by decide +kernel
theorem dX8_size_34 : decode cX8_size 34 = .ok (.iload_n 1, 1) := by decide +kernel
theorem dX8_size_35 : decode cX8_size 35 = .ok (.iaload, 1) := by decide +kernel
theorem dX8_size_36 : decode cX8_size 36 = .ok (.if_icmp .ge 18, 3) := by decide +kernel
theorem dX8_size_39 : decode cX8_size 39 = .ok (.iload_n 2, 1) := by decide +kernel
theorem dX8_size_40 : decode cX8_size 40 = .ok (.aload_n 0, 1) := by decide +kernel
theorem dX8_size_41 : decode cX8_size 41 = .ok (.getfield 33, 3) := by decide +kernel
theorem dX8_size_44 : decode cX8_size 44 = .ok (.iload_n 3, 1) := by decide +kernel
theorem dX8_size_45 : decode cX8_size 45 = .ok (.iaload, 1) := by decide +kernel
theorem dX8_size_46 : decode cX8_size 46 = .ok (.iadd, 1) := by decide +kernel
theorem dX8_size_47 : decode cX8_size 47 = .ok (.istore_n 2, 1) := by decide +kernel
theorem dX8_size_48 : decode cX8_size 48 = .ok (.iinc 3 1, 3) := by decide +kernel
theorem dX8_size_51 : decode cX8_size 51 = .ok (.goto (-22), 3) := by decide +kernel
theorem dX8_size_54 : decode cX8_size 54 = .ok (.aload_n 0, 1) := by decide +kernel
theorem dX8_size_55 : decode cX8_size 55 = .ok (.getfield 142, 3) := by decide +kernel
theorem dX8_size_58 : decode cX8_size 58 = .ok (.ifCond .eq 7, 3) := by decide +kernel
theorem dX8_size_61 : decode cX8_size 61 = .ok (.iload_n 2, 1) := by decide +kernel
theorem dX8_size_62 : decode cX8_size 62 = .ok (.goto 5, 3) := by decide +kernel
theorem dX8_size_65 : decode cX8_size 65 = .ok (.ldc 112, 2) := by decide +kernel
theorem dX8_size_67 : decode cX8_size 67 = .ok (.ireturn, 1) := by decide +kernel
theorem dX8_witness_0 : decode cX8_witness 0 = .ok (.iload_n 1, 1) := by decide +kernel
theorem dX8_witness_1 : decode cX8_witness 1 = .ok (.invokestatic 88, 3) := by decide +kernel
theorem dX8_witness_4 : decode cX8_witness 4 = .ok (.ifCond .ne 5, 3) := by decide +kernel
theorem dX8_witness_7 : decode cX8_witness 7 = .ok (.iconst (-1), 1) := by decide +kernel
theorem dX8_witness_8 : decode cX8_witness 8 = .ok (.ireturn, 1) := by decide +kernel
theorem dX8_witness_9 : decode cX8_witness 9 = .ok (.iload_n 2, 1) := by decide +kernel
theorem dX8_witness_10 : decode cX8_witness 10 = .ok (.i2l, 1) := by decide +kernel
theorem dX8_witness_11 : decode cX8_witness 11 = .ok (.lconst 0, 1) := by decide +kernel
theorem dX8_witness_12 : decode cX8_witness 12 = .ok (.ldc2_w 163, 3) := by decide +kernel
theorem dX8_witness_15 : decode cX8_witness 15 = .ok (.invokestatic 76, 3) := by decide +kernel
theorem dX8_witness_18 : decode cX8_witness 18 = .ok (.ifCond .ne 6, 3) := by decide +kernel
theorem dX8_witness_21 : decode cX8_witness 21 = .ok (.bipush (-2), 2) := by decide +kernel
theorem dX8_witness_23 : decode cX8_witness 23 = .ok (.ireturn, 1) := by decide +kernel
theorem dX8_witness_24 : decode cX8_witness 24 = .ok (.aload_n 0, 1) := by decide +kernel
theorem dX8_witness_25 : decode cX8_witness 25 = .ok (.aload_n 0, 1) := by decide +kernel
theorem dX8_witness_26 : decode cX8_witness 26 = .ok (.getfield 13, 3) := by decide +kernel
theorem dX8_witness_29 : decode cX8_witness 29 = .ok (.iload_n 1, 1) := by decide +kernel
theorem dX8_witness_30 : decode cX8_witness 30 = .ok (.laload, 1) := by decide +kernel
theorem dX8_witness_31 : decode cX8_witness 31 = .ok (.aload_n 0, 1) := by decide +kernel
theorem dX8_witness_32 : decode cX8_witness 32 = .ok (.getfield 7, 3) := by decide +kernel
theorem dX8_witness_35 : decode cX8_witness 35 = .ok (.iload_n 1, 1) := by decide +kernel
theorem dX8_witness_36 : decode cX8_witness 36 = .ok (.iaload, 1) := by decide +kernel
theorem dX8_witness_37 : decode cX8_witness 37 = .ok (.invokevirtual 160, 3) := by decide +kernel
theorem dX8_witness_40 : decode cX8_witness 40 = .ok (.aload_n 0, 1) := by decide +kernel
theorem dX8_witness_41 : decode cX8_witness 41 = .ok (.getfield 142, 3) := by decide +kernel
theorem dX8_witness_44 : decode cX8_witness 44 = .ok (.ifCond .eq 8, 3) := by decide +kernel
theorem dX8_witness_47 : decode cX8_witness 47 = .ok (.ldc 112, 2) := by decide +kernel
theorem dX8_witness_49 : decode cX8_witness 49 = .ok (.goto 9, 3) := by decide +kernel
theorem dX8_witness_52 : decode cX8_witness 52 = .ok (.aload_n 0, 1) := by decide +kernel
theorem dX8_witness_53 : decode cX8_witness 53 = .ok (.getfield 24, 3) := by decide +kernel
theorem dX8_witness_56 : decode cX8_witness 56 = .ok (.iload_n 2, 1) := by decide +kernel
theorem dX8_witness_57 : decode cX8_witness 57 = .ok (.iaload, 1) := by decide +kernel
theorem dX8_witness_58 : decode cX8_witness 58 = .ok (.ireturn, 1) := by decide +kernel
theorem dX8_slack_0 : decode cX8_slack 0 = .ok (.iload_n 1, 1) := by decide +kernel
theorem dX8_slack_1 : decode cX8_slack 1 = .ok (.invokestatic 88, 3) := by decide +kernel
theorem dX8_slack_4 : decode cX8_slack 4 = .ok (.ifCond .ne 5, 3) := by decide +kernel
theorem dX8_slack_7 : decode cX8_slack 7 = .ok (.iconst (-1), 1) := by decide +kernel
theorem dX8_slack_8 : decode cX8_slack 8 = .ok (.ireturn, 1) := by decide +kernel
theorem dX8_slack_9 : decode cX8_slack 9 = .ok (.aload_n 0, 1) := by decide +kernel
theorem dX8_slack_10 : decode cX8_slack 10 = .ok (.getfield 7, 3) := by decide +kernel
theorem dX8_slack_13 : decode cX8_slack 13 = .ok (.iload_n 1, 1) := by decide +kernel
theorem dX8_slack_14 : decode cX8_slack 14 = .ok (.iaload, 1) := by decide +kernel
theorem dX8_slack_15 : decode cX8_slack 15 = .ok (.istore_n 2, 1) := by decide +kernel
theorem dX8_slack_16 : decode cX8_slack 16 = .ok (.aload_n 0, 1) := by decide +kernel
theorem dX8_slack_17 : decode cX8_slack 17 = .ok (.aload_n 0, 1) := by decide +kernel
theorem dX8_slack_18 : decode cX8_slack 18 = .ok (.getfield 13, 3) := by decide +kernel
theorem dX8_slack_21 : decode cX8_slack 21 = .ok (.iload_n 1, 1) := by decide +kernel
theorem dX8_slack_22 : decode cX8_slack 22 = .ok (.laload, 1) := by decide +kernel
theorem dX8_slack_23 : decode cX8_slack 23 = .ok (.iload_n 2, 1) := by decide +kernel
theorem dX8_slack_24 : decode cX8_slack 24 = .ok (.invokevirtual 160, 3) := by decide +kernel
theorem dX8_slack_27 : decode cX8_slack 27 = .ok (.aload_n 0, 1) := by decide +kernel
theorem dX8_slack_28 : decode cX8_slack 28 = .ok (.getfield 142, 3) := by decide +kernel
theorem dX8_slack_31 : decode cX8_slack 31 = .ok (.ifCond .ne 6, 3) := by decide +kernel
theorem dX8_slack_34 : decode cX8_slack 34 = .ok (.ldc 112, 2) := by decide +kernel
theorem dX8_slack_36 : decode cX8_slack 36 = .ok (.ireturn, 1) := by decide +kernel
theorem dX8_slack_37 : decode cX8_slack 37 = .ok (.sipush 1000, 3) := by decide +kernel
theorem dX8_slack_40 : decode cX8_slack 40 = .ok (.istore_n 3, 1) := by decide +kernel
theorem dX8_slack_41 : decode cX8_slack 41 = .ok (.iconst 1, 1) := by decide +kernel
theorem dX8_slack_42 : decode cX8_slack 42 = .ok (.istore 4, 2) := by decide +kernel
theorem dX8_slack_44 : decode cX8_slack 44 = .ok (.iload 4, 2) := by decide +kernel
theorem dX8_slack_46 : decode cX8_slack 46 = .ok (.iconst 1, 1) := by decide +kernel
theorem dX8_slack_47 : decode cX8_slack 47 = .ok (.iload_n 2, 1) := by decide +kernel
theorem dX8_slack_48 : decode cX8_slack 48 = .ok (.ishl, 1) := by decide +kernel
theorem dX8_slack_49 : decode cX8_slack 49 = .ok (.if_icmp .ge 74, 3) := by decide +kernel
theorem dX8_slack_52 : decode cX8_slack 52 = .ok (.iconst 2, 1) := by decide +kernel
theorem dX8_slack_53 : decode cX8_slack 53 = .ok (.aload_n 0, 1) := by decide +kernel
theorem dX8_slack_54 : decode cX8_slack 54 = .ok (.iload 4, 2) := by decide +kernel
theorem dX8_slack_56 : decode cX8_slack 56 = .ok (.iload_n 2, 1) := by decide +kernel
theorem dX8_slack_57 : decode cX8_slack 57 = .ok (.invokevirtual 129, 3) := by decide +kernel
theorem dX8_slack_60 : decode cX8_slack 60 = .ok (.aload_n 0, 1) := by decide +kernel
theorem dX8_slack_61 : decode cX8_slack 61 = .ok (.getfield 133, 3) := by decide +kernel
theorem dX8_slack_64 : decode cX8_slack 64 = .ok (.isub, 1) := by decide +kernel
theorem dX8_slack_65 : decode cX8_slack 65 = .ok (.imul, 1) := by decide +kernel
theorem dX8_slack_66 : decode cX8_slack 66 = .ok (.iconst 1, 1) := by decide +kernel
theorem dX8_slack_67 : decode cX8_slack 67 = .ok (.iadd, 1) := by decide +kernel
theorem dX8_slack_68 : decode cX8_slack 68 = .ok (.istore 5, 2) := by decide +kernel
theorem dX8_slack_70 : decode cX8_slack 70 = .ok (.iload 5, 2) := by decide +kernel
theorem dX8_slack_72 : decode cX8_slack 72 = .ok (.ifCond .ge 9, 3) := by decide +kernel
theorem dX8_slack_75 : decode cX8_slack 75 = .ok (.iload 5, 2) := by decide +kernel
theorem dX8_slack_77 : decode cX8_slack 77 = .ok (.ineg, 1) := by decide +kernel
theorem dX8_slack_78 : decode cX8_slack 78 = .ok (.goto 5, 3) := by decide +kernel
theorem dX8_slack_81 : decode cX8_slack 81 = .ok (.iload 5, 2) := by decide +kernel
theorem dX8_slack_83 : decode cX8_slack 83 = .ok (.istore 5, 2) := by decide +kernel
theorem dX8_slack_85 : decode cX8_slack 85 = .ok (.sipush 1000, 3) := by decide +kernel
theorem dX8_slack_88 : decode cX8_slack 88 = .ok (.iload 5, 2) := by decide +kernel
theorem dX8_slack_90 : decode cX8_slack 90 = .ok (.imul, 1) := by decide +kernel
theorem dX8_slack_91 : decode cX8_slack 91 = .ok (.iconst 1, 1) := by decide +kernel
theorem dX8_slack_92 : decode cX8_slack 92 = .ok (.isub, 1) := by decide +kernel
theorem dX8_slack_93 : decode cX8_slack 93 = .ok (.iconst 2, 1) := by decide +kernel
theorem dX8_slack_94 : decode cX8_slack 94 = .ok (.iload 4, 2) := by decide +kernel
theorem dX8_slack_96 : decode cX8_slack 96 = .ok (.i2l, 1) := by decide +kernel
theorem dX8_slack_97 : decode cX8_slack 97 = .ok (.invokestatic 84, 3) := by decide +kernel
theorem dX8_slack_100 : decode cX8_slack 100 = .ok (.imul, 1) := by decide +kernel
theorem dX8_slack_101 : decode cX8_slack 101 = .ok (.idiv, 1) := by decide +kernel
theorem dX8_slack_102 : decode cX8_slack 102 = .ok (.istore 6, 2) := by decide +kernel
theorem dX8_slack_104 : decode cX8_slack 104 = .ok (.iload 6, 2) := by decide +kernel
theorem dX8_slack_106 : decode cX8_slack 106 = .ok (.iload_n 3, 1) := by decide +kernel
theorem dX8_slack_107 : decode cX8_slack 107 = .ok (.if_icmp .ge 8, 3) := by decide +kernel
theorem dX8_slack_110 : decode cX8_slack 110 = .ok (.iload 6, 2) := by decide +kernel
theorem dX8_slack_112 : decode cX8_slack 112 = .ok (.goto 4, 3) := by decide +kernel
theorem dX8_slack_115 : decode cX8_slack 115 = .ok (.iload_n 3, 1) := by decide +kernel
theorem dX8_slack_116 : decode cX8_slack 116 = .ok (.istore_n 3, 1) := by decide +kernel
theorem dX8_slack_117 : decode cX8_slack 117 = .ok (.iinc 4 1, 3) := by decide +kernel
theorem dX8_slack_120 : decode cX8_slack 120 = .ok (.goto (-76), 3) := by decide +kernel
theorem dX8_slack_123 : decode cX8_slack 123 = .ok (.iload_n 3, 1) := by decide +kernel
theorem dX8_slack_124 : decode cX8_slack 124 = .ok (.ireturn, 1) := by decide +kernel
theorem dX8_changed_0 : decode cX8_changed 0 = .ok (.lconst 0, 1) := by decide +kernel
theorem dX8_changed_1 : decode cX8_changed 1 = .ok (.lstore 4, 2) := by decide +kernel
theorem dX8_changed_3 : decode cX8_changed 3 = .ok (.iconst 0, 1) := by decide +kernel
theorem dX8_changed_4 : decode cX8_changed 4 = .ok (.istore 6, 2) := by decide +kernel
theorem dX8_changed_6 : decode cX8_changed 6 = .ok (.iload 6, 2) := by decide +kernel
theorem dX8_changed_8 : decode cX8_changed 8 = .ok (.iconst 1, 1) := by decide +kernel
theorem dX8_changed_9 : decode cX8_changed 9 = .ok (.iload_n 3, 1) := by decide +kernel
theorem dX8_changed_10 : decode cX8_changed 10 = .ok (.ishl, 1) := by decide +kernel
theorem dX8_changed_11 : decode cX8_changed 11 = .ok (.if_icmp .ge 69, 3) := by decide +kernel
theorem dX8_changed_14 : decode cX8_changed 14 = .ok (.iconst 0, 1) := by decide +kernel
theorem dX8_changed_15 : decode cX8_changed 15 = .ok (.istore 7, 2) := by decide +kernel
theorem dX8_changed_17 : decode cX8_changed 17 = .ok (.iconst 0, 1) := by decide +kernel
theorem dX8_changed_18 : decode cX8_changed 18 = .ok (.istore 8, 2) := by decide +kernel
theorem dX8_changed_20 : decode cX8_changed 20 = .ok (.iload 8, 2) := by decide +kernel
theorem dX8_changed_22 : decode cX8_changed 22 = .ok (.iload_n 3, 1) := by decide +kernel
theorem dX8_changed_23 : decode cX8_changed 23 = .ok (.if_icmp .ge 29, 3) := by decide +kernel
theorem dX8_changed_26 : decode cX8_changed 26 = .ok (.iload 7, 2) := by decide +kernel
theorem dX8_changed_28 : decode cX8_changed 28 = .ok (.iload 6, 2) := by decide +kernel
theorem dX8_changed_30 : decode cX8_changed 30 = .ok (.iload 8, 2) := by decide +kernel
theorem dX8_changed_32 : decode cX8_changed 32 = .ok (.ishr, 1) := by decide +kernel
theorem dX8_changed_33 : decode cX8_changed 33 = .ok (.iconst 1, 1) := by decide +kernel
theorem dX8_changed_34 : decode cX8_changed 34 = .ok (.iand, 1) := by decide +kernel
theorem dX8_changed_35 : decode cX8_changed 35 = .ok (.aload_n 0, 1) := by decide +kernel
theorem dX8_changed_36 : decode cX8_changed 36 = .ok (.getfield 39, 3) := by decide +kernel
theorem dX8_changed_39 : decode cX8_changed 39 = .ok (.iload 8, 2) := by decide +kernel
theorem dX8_changed_41 : decode cX8_changed 41 = .ok (.iaload, 1) := by decide +kernel
theorem dX8_changed_42 : decode cX8_changed 42 = .ok (.ishl, 1) := by decide +kernel
theorem dX8_changed_43 : decode cX8_changed 43 = .ok (.ior, 1) := by decide +kernel
theorem dX8_changed_44 : decode cX8_changed 44 = .ok (.istore 7, 2) := by decide +kernel
theorem dX8_changed_46 : decode cX8_changed 46 = .ok (.iinc 8 1, 3) := by decide +kernel
theorem dX8_changed_49 : decode cX8_changed 49 = .ok (.goto (-29), 3) := by decide +kernel
theorem dX8_changed_52 : decode cX8_changed 52 = .ok (.lload 4, 2) := by decide +kernel
theorem dX8_changed_54 : decode cX8_changed 54 = .ok (.lload_n 1, 1) := by decide +kernel
theorem dX8_changed_55 : decode cX8_changed 55 = .ok (.iload 7, 2) := by decide +kernel
theorem dX8_changed_57 : decode cX8_changed 57 = .ok (.invokestatic 80, 3) := by decide +kernel
theorem dX8_changed_60 : decode cX8_changed 60 = .ok (.ifCond .eq 10, 3) := by decide +kernel
theorem dX8_changed_63 : decode cX8_changed 63 = .ok (.lconst 1, 1) := by decide +kernel
theorem dX8_changed_64 : decode cX8_changed 64 = .ok (.iload 6, 2) := by decide +kernel
theorem dX8_changed_66 : decode cX8_changed 66 = .ok (.lshl, 1) := by decide +kernel
theorem dX8_changed_67 : decode cX8_changed 67 = .ok (.goto 4, 3) := by decide +kernel
theorem dX8_changed_70 : decode cX8_changed 70 = .ok (.lconst 0, 1) := by decide +kernel
theorem dX8_changed_71 : decode cX8_changed 71 = .ok (.lor, 1) := by decide +kernel
theorem dX8_changed_72 : decode cX8_changed 72 = .ok (.lstore 4, 2) := by decide +kernel
theorem dX8_changed_74 : decode cX8_changed 74 = .ok (.iinc 6 1, 3) := by decide +kernel
theorem dX8_changed_77 : decode cX8_changed 77 = .ok (.goto (-71), 3) := by decide +kernel
theorem dX8_changed_80 : decode cX8_changed 80 = .ok (.lload 4, 2) := by decide +kernel
theorem dX8_changed_82 : decode cX8_changed 82 = .ok (.lreturn, 1) := by decide +kernel
theorem dX8_meet_0 : decode cX8_meet 0 = .ok (.aload_n 0, 1) := by decide +kernel
theorem dX8_meet_1 : decode cX8_meet 1 = .ok (.lload_n 1, 1) := by decide +kernel
theorem dX8_meet_2 : decode cX8_meet 2 = .ok (.aload_n 0, 1) := by decide +kernel
theorem dX8_meet_3 : decode cX8_meet 3 = .ok (.getfield 165, 3) := by decide +kernel
theorem dX8_meet_6 : decode cX8_meet 6 = .ok (.lcmp, 1) := by decide +kernel
theorem dX8_meet_7 : decode cX8_meet 7 = .ok (.ifCond .ge 7, 3) := by decide +kernel
theorem dX8_meet_10 : decode cX8_meet 10 = .ok (.lload_n 1, 1) := by decide +kernel
theorem dX8_meet_11 : decode cX8_meet 11 = .ok (.goto 7, 3) := by decide +kernel
theorem dX8_meet_14 : decode cX8_meet 14 = .ok (.aload_n 0, 1) := by decide +kernel
theorem dX8_meet_15 : decode cX8_meet 15 = .ok (.getfield 165, 3) := by decide +kernel
theorem dX8_meet_18 : decode cX8_meet 18 = .ok (.putfield 165, 3) := by decide +kernel
theorem dX8_meet_21 : decode cX8_meet 21 = .ok (.aload_n 0, 1) := by decide +kernel
theorem dX8_meet_22 : decode cX8_meet 22 = .ok (.getfield 43, 3) := by decide +kernel
theorem dX8_meet_25 : decode cX8_meet 25 = .ok (.lload_n 1, 1) := by decide +kernel
theorem dX8_meet_26 : decode cX8_meet 26 = .ok (.l2i, 1) := by decide +kernel
theorem dX8_meet_27 : decode cX8_meet 27 = .ok (.iaload, 1) := by decide +kernel
theorem dX8_meet_28 : decode cX8_meet 28 = .ok (.aload_n 0, 1) := by decide +kernel
theorem dX8_meet_29 : decode cX8_meet 29 = .ok (.getfield 168, 3) := by decide +kernel
theorem dX8_meet_32 : decode cX8_meet 32 = .ok (.if_icmp .eq 24, 3) := by decide +kernel
theorem dX8_meet_35 : decode cX8_meet 35 = .ok (.aload_n 0, 1) := by decide +kernel
theorem dX8_meet_36 : decode cX8_meet 36 = .ok (.getfield 43, 3) := by decide +kernel
theorem dX8_meet_39 : decode cX8_meet 39 = .ok (.lload_n 1, 1) := by decide +kernel
theorem dX8_meet_40 : decode cX8_meet 40 = .ok (.l2i, 1) := by decide +kernel
theorem dX8_meet_41 : decode cX8_meet 41 = .ok (.aload_n 0, 1) := by decide +kernel
theorem dX8_meet_42 : decode cX8_meet 42 = .ok (.getfield 168, 3) := by decide +kernel
theorem dX8_meet_45 : decode cX8_meet 45 = .ok (.iastore, 1) := by decide +kernel
theorem dX8_meet_46 : decode cX8_meet 46 = .ok (.aload_n 0, 1) := by decide +kernel
theorem dX8_meet_47 : decode cX8_meet 47 = .ok (.dup, 1) := by decide +kernel
theorem dX8_meet_48 : decode cX8_meet 48 = .ok (.getfield 171, 3) := by decide +kernel
theorem dX8_meet_51 : decode cX8_meet 51 = .ok (.iconst 1, 1) := by decide +kernel
theorem dX8_meet_52 : decode cX8_meet 52 = .ok (.iadd, 1) := by decide +kernel
theorem dX8_meet_53 : decode cX8_meet 53 = .ok (.putfield 171, 3) := by decide +kernel
theorem dX8_meet_56 : decode cX8_meet 56 = .ok (.return_, 1) := by decide +kernel
theorem dX8_layKind_0 : decode cX8_layKind 0 = .ok (.aload_n 0, 1) := by decide +kernel
theorem dX8_layKind_1 : decode cX8_layKind 1 = .ok (.dup, 1) := by decide +kernel
theorem dX8_layKind_2 : decode cX8_layKind 2 = .ok (.getfield 168, 3) := by decide +kernel
theorem dX8_layKind_5 : decode cX8_layKind 5 = .ok (.iconst 1, 1) := by decide +kernel
theorem dX8_layKind_6 : decode cX8_layKind 6 = .ok (.iadd, 1) := by decide +kernel
theorem dX8_layKind_7 : decode cX8_layKind 7 = .ok (.putfield 168, 3) := by decide +kernel
theorem dX8_layKind_10 : decode cX8_layKind 10 = .ok (.aload_n 0, 1) := by decide +kernel
theorem dX8_layKind_11 : decode cX8_layKind 11 = .ok (.iload_n 3, 1) := by decide +kernel
theorem dX8_layKind_12 : decode cX8_layKind 12 = .ok (.invokestatic 94, 3) := by decide +kernel
theorem dX8_layKind_15 : decode cX8_layKind 15 = .ok (.putfield 165, 3) := by decide +kernel
theorem dX8_layKind_18 : decode cX8_layKind 18 = .ok (.aload_n 0, 1) := by decide +kernel
theorem dX8_layKind_19 : decode cX8_layKind 19 = .ok (.iconst 0, 1) := by decide +kernel
theorem dX8_layKind_20 : decode cX8_layKind 20 = .ok (.putfield 171, 3) := by decide +kernel
theorem dX8_layKind_23 : decode cX8_layKind 23 = .ok (.iconst 1, 1) := by decide +kernel
theorem dX8_layKind_24 : decode cX8_layKind 24 = .ok (.istore 4, 2) := by decide +kernel
theorem dX8_layKind_26 : decode cX8_layKind 26 = .ok (.iconst 0, 1) := by decide +kernel
theorem dX8_layKind_27 : decode cX8_layKind 27 = .ok (.istore 5, 2) := by decide +kernel
theorem dX8_layKind_29 : decode cX8_layKind 29 = .ok (.iload 5, 2) := by decide +kernel
theorem dX8_layKind_31 : decode cX8_layKind 31 = .ok (.iload_n 3, 1) := by decide +kernel
theorem dX8_layKind_32 : decode cX8_layKind 32 = .ok (.if_icmp .ge 15, 3) := by decide +kernel
theorem dX8_layKind_35 : decode cX8_layKind 35 = .ok (.iload 4, 2) := by decide +kernel
theorem dX8_layKind_37 : decode cX8_layKind 37 = .ok (.iload_n 3, 1) := by decide +kernel
theorem dX8_layKind_38 : decode cX8_layKind 38 = .ok (.imul, 1) := by decide +kernel
theorem dX8_layKind_39 : decode cX8_layKind 39 = .ok (.istore 4, 2) := by decide +kernel
theorem dX8_layKind_41 : decode cX8_layKind 41 = .ok (.iinc 5 1, 3) := by decide +kernel
theorem dX8_layKind_44 : decode cX8_layKind 44 = .ok (.goto (-15), 3) := by decide +kernel
theorem dX8_layKind_47 : decode cX8_layKind 47 = .ok (.iconst 0, 1) := by decide +kernel
theorem dX8_layKind_48 : decode cX8_layKind 48 = .ok (.istore 5, 2) := by decide +kernel
theorem dX8_layKind_50 : decode cX8_layKind 50 = .ok (.iload 5, 2) := by decide +kernel
theorem dX8_layKind_52 : decode cX8_layKind 52 = .ok (.iload 4, 2) := by decide +kernel
theorem dX8_layKind_54 : decode cX8_layKind 54 = .ok (.if_icmp .ge 124, 3) := by decide +kernel
theorem dX8_layKind_57 : decode cX8_layKind 57 = .ok (.iload 5, 2) := by decide +kernel
theorem dX8_layKind_59 : decode cX8_layKind 59 = .ok (.istore 6, 2) := by decide +kernel
theorem dX8_layKind_61 : decode cX8_layKind 61 = .ok (.iconst 0, 1) := by decide +kernel
theorem dX8_layKind_62 : decode cX8_layKind 62 = .ok (.istore 7, 2) := by decide +kernel
theorem dX8_layKind_64 : decode cX8_layKind 64 = .ok (.iconst 0, 1) := by decide +kernel
theorem dX8_layKind_65 : decode cX8_layKind 65 = .ok (.istore 8, 2) := by decide +kernel
theorem dX8_layKind_67 : decode cX8_layKind 67 = .ok (.iload 8, 2) := by decide +kernel
theorem dX8_layKind_69 : decode cX8_layKind 69 = .ok (.iload_n 3, 1) := by decide +kernel
theorem dX8_layKind_70 : decode cX8_layKind 70 = .ok (.if_icmp .ge 40, 3) := by decide +kernel
theorem dX8_layKind_73 : decode cX8_layKind 73 = .ok (.aload_n 0, 1) := by decide +kernel
theorem dX8_layKind_74 : decode cX8_layKind 74 = .ok (.getfield 39, 3) := by decide +kernel
theorem dX8_layKind_77 : decode cX8_layKind 77 = .ok (.iload 8, 2) := by decide +kernel
theorem dX8_layKind_79 : decode cX8_layKind 79 = .ok (.iload 6, 2) := by decide +kernel
theorem dX8_layKind_81 : decode cX8_layKind 81 = .ok (.iload_n 3, 1) := by decide +kernel
theorem dX8_layKind_82 : decode cX8_layKind 82 = .ok (.irem, 1) := by decide +kernel
theorem dX8_layKind_83 : decode cX8_layKind 83 = .ok (.iastore, 1) := by decide +kernel
theorem dX8_layKind_84 : decode cX8_layKind 84 = .ok (.iload 7, 2) := by decide +kernel
theorem dX8_layKind_86 : decode cX8_layKind 86 = .ok (.iconst 1, 1) := by decide +kernel
theorem dX8_layKind_87 : decode cX8_layKind 87 = .ok (.aload_n 0, 1) := by decide +kernel
theorem dX8_layKind_88 : decode cX8_layKind 88 = .ok (.getfield 39, 3) := by decide +kernel
theorem dX8_layKind_91 : decode cX8_layKind 91 = .ok (.iload 8, 2) := by decide +kernel
theorem dX8_layKind_93 : decode cX8_layKind 93 = .ok (.iaload, 1) := by decide +kernel
theorem dX8_layKind_94 : decode cX8_layKind 94 = .ok (.ishl, 1) := by decide +kernel
theorem dX8_layKind_95 : decode cX8_layKind 95 = .ok (.ior, 1) := by decide +kernel
theorem dX8_layKind_96 : decode cX8_layKind 96 = .ok (.istore 7, 2) := by decide +kernel
theorem dX8_layKind_98 : decode cX8_layKind 98 = .ok (.iload 6, 2) := by decide +kernel
theorem dX8_layKind_100 : decode cX8_layKind 100 = .ok (.iload_n 3, 1) := by decide +kernel
theorem dX8_layKind_101 : decode cX8_layKind 101 = .ok (.idiv, 1) := by decide +kernel
theorem dX8_layKind_102 : decode cX8_layKind 102 = .ok (.istore 6, 2) := by decide +kernel
theorem dX8_layKind_104 : decode cX8_layKind 104 = .ok (.iinc 8 1, 3) := by decide +kernel
theorem dX8_layKind_107 : decode cX8_layKind 107 = .ok (.goto (-40), 3) := by decide +kernel
theorem dX8_layKind_110 : decode cX8_layKind 110 = .ok (.iload 7, 2) := by decide +kernel
theorem dX8_layKind_112 : decode cX8_layKind 112 = .ok (.iconst 1, 1) := by decide +kernel
theorem dX8_layKind_113 : decode cX8_layKind 113 = .ok (.iload_n 3, 1) := by decide +kernel
theorem dX8_layKind_114 : decode cX8_layKind 114 = .ok (.ishl, 1) := by decide +kernel
theorem dX8_layKind_115 : decode cX8_layKind 115 = .ok (.iconst 1, 1) := by decide +kernel
theorem dX8_layKind_116 : decode cX8_layKind 116 = .ok (.isub, 1) := by decide +kernel
theorem dX8_layKind_117 : decode cX8_layKind 117 = .ok (.if_icmp .ne 55, 3) := by decide +kernel
theorem dX8_layKind_120 : decode cX8_layKind 120 = .ok (.aload_n 0, 1) := by decide +kernel
theorem dX8_layKind_121 : decode cX8_layKind 121 = .ok (.lload_n 1, 1) := by decide +kernel
theorem dX8_layKind_122 : decode cX8_layKind 122 = .ok (.iload_n 3, 1) := by decide +kernel
theorem dX8_layKind_123 : decode cX8_layKind 123 = .ok (.invokevirtual 174, 3) := by decide +kernel
theorem dX8_layKind_126 : decode cX8_layKind 126 = .ok (.lstore 8, 2) := by decide +kernel
theorem dX8_layKind_128 : decode cX8_layKind 128 = .ok (.iconst 0, 1) := by decide +kernel
theorem dX8_layKind_129 : decode cX8_layKind 129 = .ok (.istore 10, 2) := by decide +kernel
theorem dX8_layKind_131 : decode cX8_layKind 131 = .ok (.iload 10, 2) := by decide +kernel
theorem dX8_layKind_133 : decode cX8_layKind 133 = .ok (.iconst 1, 1) := by decide +kernel
theorem dX8_layKind_134 : decode cX8_layKind 134 = .ok (.iload_n 3, 1) := by decide +kernel
theorem dX8_layKind_135 : decode cX8_layKind 135 = .ok (.ishl, 1) := by decide +kernel
theorem dX8_layKind_136 : decode cX8_layKind 136 = .ok (.if_icmp .ge 36, 3) := by decide +kernel
theorem dX8_layKind_139 : decode cX8_layKind 139 = .ok (.lload 8, 2) := by decide +kernel
theorem dX8_layKind_141 : decode cX8_layKind 141 = .ok (.iload_n 3, 1) := by decide +kernel
theorem dX8_layKind_142 : decode cX8_layKind 142 = .ok (.iload 10, 2) := by decide +kernel
theorem dX8_layKind_144 : decode cX8_layKind 144 = .ok (.invokestatic 117, 3) := by decide +kernel
theorem dX8_layKind_147 : decode cX8_layKind 147 = .ok (.lstore 11, 2) := by decide +kernel
theorem dX8_layKind_149 : decode cX8_layKind 149 = .ok (.aload_n 0, 1) := by decide +kernel
theorem dX8_layKind_150 : decode cX8_layKind 150 = .ok (.lload 11, 2) := by decide +kernel
theorem dX8_layKind_152 : decode cX8_layKind 152 = .ok (.invokevirtual 178, 3) := by decide +kernel
theorem dX8_layKind_155 : decode cX8_layKind 155 = .ok (.aload_n 0, 1) := by decide +kernel
theorem dX8_layKind_156 : decode cX8_layKind 156 = .ok (.iload_n 3, 1) := by decide +kernel
theorem dX8_layKind_157 : decode cX8_layKind 157 = .ok (.invokestatic 94, 3) := by decide +kernel
theorem dX8_layKind_160 : decode cX8_layKind 160 = .ok (.lload 11, 2) := by decide +kernel
theorem dX8_layKind_162 : decode cX8_layKind 162 = .ok (.lxor, 1) := by decide +kernel
theorem dX8_layKind_163 : decode cX8_layKind 163 = .ok (.invokevirtual 178, 3) := by decide +kernel
theorem dX8_layKind_166 : decode cX8_layKind 166 = .ok (.iinc 10 1, 3) := by decide +kernel
theorem dX8_layKind_169 : decode cX8_layKind 169 = .ok (.goto (-38), 3) := by decide +kernel
theorem dX8_layKind_172 : decode cX8_layKind 172 = .ok (.iinc 5 1, 3) := by decide +kernel
theorem dX8_layKind_175 : decode cX8_layKind 175 = .ok (.goto (-125), 3) := by decide +kernel
theorem dX8_layKind_178 : decode cX8_layKind 178 = .ok (.return_, 1) := by decide +kernel
theorem dX8_chief_0 : decode cX8_chief 0 = .ok (.iload_n 1, 1) := by decide +kernel
theorem dX8_chief_1 : decode cX8_chief 1 = .ok (.invokestatic 88, 3) := by decide +kernel
theorem dX8_chief_4 : decode cX8_chief 4 = .ok (.ifCond .ne 7, 3) := by decide +kernel
theorem dX8_chief_7 : decode cX8_chief 7 = .ok (.ldc2_w 27, 3) := by decide +kernel
theorem dX8_chief_10 : decode cX8_chief 10 = .ok (.lreturn, 1) := by decide +kernel
theorem dX8_chief_11 : decode cX8_chief 11 = .ok (.aload_n 0, 1) := by decide +kernel
theorem dX8_chief_12 : decode cX8_chief 12 = .ok (.getfield 7, 3) := by decide +kernel
theorem dX8_chief_15 : decode cX8_chief 15 = .ok (.iload_n 1, 1) := by decide +kernel
theorem dX8_chief_16 : decode cX8_chief 16 = .ok (.iaload, 1) := by decide +kernel
theorem dX8_chief_17 : decode cX8_chief 17 = .ok (.iconst 4, 1) := by decide +kernel
theorem dX8_chief_18 : decode cX8_chief 18 = .ok (.if_icmp .le 7, 3) := by decide +kernel
theorem dX8_chief_21 : decode cX8_chief 21 = .ok (.ldc2_w 182, 3) := by decide +kernel
theorem dX8_chief_24 : decode cX8_chief 24 = .ok (.lreturn, 1) := by decide +kernel
theorem dX8_chief_25 : decode cX8_chief 25 = .ok (.aload_n 0, 1) := by decide +kernel
theorem dX8_chief_26 : decode cX8_chief 26 = .ok (.aload_n 0, 1) := by decide +kernel
theorem dX8_chief_27 : decode cX8_chief 27 = .ok (.getfield 13, 3) := by decide +kernel
theorem dX8_chief_30 : decode cX8_chief 30 = .ok (.iload_n 1, 1) := by decide +kernel
theorem dX8_chief_31 : decode cX8_chief 31 = .ok (.laload, 1) := by decide +kernel
theorem dX8_chief_32 : decode cX8_chief 32 = .ok (.aload_n 0, 1) := by decide +kernel
theorem dX8_chief_33 : decode cX8_chief 33 = .ok (.getfield 7, 3) := by decide +kernel
theorem dX8_chief_36 : decode cX8_chief 36 = .ok (.iload_n 1, 1) := by decide +kernel
theorem dX8_chief_37 : decode cX8_chief 37 = .ok (.iaload, 1) := by decide +kernel
theorem dX8_chief_38 : decode cX8_chief 38 = .ok (.invokevirtual 184, 3) := by decide +kernel
theorem dX8_chief_41 : decode cX8_chief 41 = .ok (.aload_n 0, 1) := by decide +kernel
theorem dX8_chief_42 : decode cX8_chief 42 = .ok (.getfield 165, 3) := by decide +kernel
theorem dX8_chief_45 : decode cX8_chief 45 = .ok (.lreturn, 1) := by decide +kernel
theorem dX8_kin_0 : decode cX8_kin 0 = .ok (.iload_n 1, 1) := by decide +kernel
theorem dX8_kin_1 : decode cX8_kin 1 = .ok (.invokestatic 88, 3) := by decide +kernel
theorem dX8_kin_4 : decode cX8_kin 4 = .ok (.ifCond .ne 5, 3) := by decide +kernel
theorem dX8_kin_7 : decode cX8_kin 7 = .ok (.iconst (-1), 1) := by decide +kernel
theorem dX8_kin_8 : decode cX8_kin 8 = .ok (.ireturn, 1) := by decide +kernel
theorem dX8_kin_9 : decode cX8_kin 9 = .ok (.aload_n 0, 1) := by decide +kernel
theorem dX8_kin_10 : decode cX8_kin 10 = .ok (.getfield 7, 3) := by decide +kernel
theorem dX8_kin_13 : decode cX8_kin 13 = .ok (.iload_n 1, 1) := by decide +kernel
theorem dX8_kin_14 : decode cX8_kin 14 = .ok (.iaload, 1) := by decide +kernel
theorem dX8_kin_15 : decode cX8_kin 15 = .ok (.iconst 4, 1) := by decide +kernel
theorem dX8_kin_16 : decode cX8_kin 16 = .ok (.if_icmp .le 6, 3) := by decide +kernel
theorem dX8_kin_19 : decode cX8_kin 19 = .ok (.bipush (-3), 2) := by decide +kernel
theorem dX8_kin_21 : decode cX8_kin 21 = .ok (.ireturn, 1) := by decide +kernel
theorem dX8_kin_22 : decode cX8_kin 22 = .ok (.aload_n 0, 1) := by decide +kernel
theorem dX8_kin_23 : decode cX8_kin 23 = .ok (.aload_n 0, 1) := by decide +kernel
theorem dX8_kin_24 : decode cX8_kin 24 = .ok (.getfield 13, 3) := by decide +kernel
theorem dX8_kin_27 : decode cX8_kin 27 = .ok (.iload_n 1, 1) := by decide +kernel
theorem dX8_kin_28 : decode cX8_kin 28 = .ok (.laload, 1) := by decide +kernel
theorem dX8_kin_29 : decode cX8_kin 29 = .ok (.aload_n 0, 1) := by decide +kernel
theorem dX8_kin_30 : decode cX8_kin 30 = .ok (.getfield 7, 3) := by decide +kernel
theorem dX8_kin_33 : decode cX8_kin 33 = .ok (.iload_n 1, 1) := by decide +kernel
theorem dX8_kin_34 : decode cX8_kin 34 = .ok (.iaload, 1) := by decide +kernel
theorem dX8_kin_35 : decode cX8_kin 35 = .ok (.invokevirtual 184, 3) := by decide +kernel
theorem dX8_kin_38 : decode cX8_kin 38 = .ok (.aload_n 0, 1) := by decide +kernel
theorem dX8_kin_39 : decode cX8_kin 39 = .ok (.getfield 171, 3) := by decide +kernel
theorem dX8_kin_42 : decode cX8_kin 42 = .ok (.ireturn, 1) := by decide +kernel
theorem dX8_gates_0 : decode cX8_gates 0 = .ok (.iload_n 1, 1) := by decide +kernel
theorem dX8_gates_1 : decode cX8_gates 1 = .ok (.i2l, 1) := by decide +kernel
theorem dX8_gates_2 : decode cX8_gates 2 = .ok (.lconst 1, 1) := by decide +kernel
theorem dX8_gates_3 : decode cX8_gates 3 = .ok (.ldc2_w 187, 3) := by decide +kernel
theorem dX8_gates_6 : decode cX8_gates 6 = .ok (.invokestatic 76, 3) := by decide +kernel
theorem dX8_gates_9 : decode cX8_gates 9 = .ok (.ifCond .ne 6, 3) := by decide +kernel
theorem dX8_gates_12 : decode cX8_gates 12 = .ok (.bipush (-2), 2) := by decide +kernel
theorem dX8_gates_14 : decode cX8_gates 14 = .ok (.ireturn, 1) := by decide +kernel
theorem dX8_gates_15 : decode cX8_gates 15 = .ok (.lconst 0, 1) := by decide +kernel
theorem dX8_gates_16 : decode cX8_gates 16 = .ok (.lstore_n 2, 1) := by decide +kernel
theorem dX8_gates_17 : decode cX8_gates 17 = .ok (.lload_n 2, 1) := by decide +kernel
theorem dX8_gates_18 : decode cX8_gates 18 = .ok (.iload_n 1, 1) := by decide +kernel
theorem dX8_gates_19 : decode cX8_gates 19 = .ok (.invokestatic 94, 3) := by decide +kernel
theorem dX8_gates_22 : decode cX8_gates 22 = .ok (.lcmp, 1) := by decide +kernel
theorem dX8_gates_23 : decode cX8_gates 23 = .ok (.ifCond .gt 48, 3) := by decide +kernel
theorem dX8_gates_26 : decode cX8_gates 26 = .ok (.aload_n 0, 1) := by decide +kernel
theorem dX8_gates_27 : decode cX8_gates 27 = .ok (.getfield 46, 3) := by decide +kernel
theorem dX8_gates_30 : decode cX8_gates 30 = .ok (.iload_n 1, 1) := by decide +kernel
theorem dX8_gates_31 : decode cX8_gates 31 = .ok (.iaload, 1) := by decide +kernel
theorem dX8_gates_32 : decode cX8_gates 32 = .ok (.ifCond .eq 9, 3) := by decide +kernel
theorem dX8_gates_35 : decode cX8_gates 35 = .ok (.lload_n 2, 1) := by decide +kernel
theorem dX8_gates_36 : decode cX8_gates 36 = .ok (.lconst 0, 1) := by decide +kernel
theorem dX8_gates_37 : decode cX8_gates 37 = .ok (.lcmp, 1) := by decide +kernel
theorem dX8_gates_38 : decode cX8_gates 38 = .ok (.ifCond .le 33, 3) := by decide +kernel
theorem dX8_gates_41 : decode cX8_gates 41 = .ok (.aload_n 0, 1) := by decide +kernel
theorem dX8_gates_42 : decode cX8_gates 42 = .ok (.getfield 46, 3) := by decide +kernel
theorem dX8_gates_45 : decode cX8_gates 45 = .ok (.iload_n 1, 1) := by decide +kernel
theorem dX8_gates_46 : decode cX8_gates 46 = .ok (.dup2, 1) := by decide +kernel
theorem dX8_gates_47 : decode cX8_gates 47 = .ok (.iaload, 1) := by decide +kernel
theorem dX8_gates_48 : decode cX8_gates 48 = .ok (.aload_n 0, 1) := by decide +kernel
theorem dX8_gates_49 : decode cX8_gates 49 = .ok (.lload_n 2, 1) := by decide +kernel
theorem dX8_gates_50 : decode cX8_gates 50 = .ok (.iload_n 1, 1) := by decide +kernel
theorem dX8_gates_51 : decode cX8_gates 51 = .ok (.invokevirtual 139, 3) := by decide +kernel
theorem dX8_gates_54 : decode cX8_gates 54 = .ok (.ifCond .eq 7, 3) := by decide +kernel
theorem dX8_gates_57 : decode cX8_gates 57 = .ok (.iconst 1, 1) := by decide +kernel
theorem dX8_gates_58 : decode cX8_gates 58 = .ok (.goto 4, 3) := by decide +kernel
theorem dX8_gates_61 : decode cX8_gates 61 = .ok (.iconst 0, 1) := by decide +kernel
theorem dX8_gates_62 : decode cX8_gates 62 = .ok (.iadd, 1) := by decide +kernel
theorem dX8_gates_63 : decode cX8_gates 63 = .ok (.iastore, 1) := by decide +kernel
theorem dX8_gates_64 : decode cX8_gates 64 = .ok (.lload_n 2, 1) := by decide +kernel
theorem dX8_gates_65 : decode cX8_gates 65 = .ok (.lconst 1, 1) := by decide +kernel
theorem dX8_gates_66 : decode cX8_gates 66 = .ok (.ladd, 1) := by decide +kernel
theorem dX8_gates_67 : decode cX8_gates 67 = .ok (.lstore_n 2, 1) := by decide +kernel
theorem dX8_gates_68 : decode cX8_gates 68 = .ok (.goto (-51), 3) := by decide +kernel
theorem dX8_gates_71 : decode cX8_gates 71 = .ok (.aload_n 0, 1) := by decide +kernel
theorem dX8_gates_72 : decode cX8_gates 72 = .ok (.ldc2_w 27, 3) := by decide +kernel
theorem dX8_gates_75 : decode cX8_gates 75 = .ok (.putfield 29, 3) := by decide +kernel
theorem dX8_gates_78 : decode cX8_gates 78 = .ok (.aload_n 0, 1) := by decide +kernel
theorem dX8_gates_79 : decode cX8_gates 79 = .ok (.getfield 46, 3) := by decide +kernel
theorem dX8_gates_82 : decode cX8_gates 82 = .ok (.iload_n 1, 1) := by decide +kernel
theorem dX8_gates_83 : decode cX8_gates 83 = .ok (.iaload, 1) := by decide +kernel
theorem dX8_gates_84 : decode cX8_gates 84 = .ok (.ireturn, 1) := by decide +kernel
theorem dX8_kinds_0 : decode cX8_kinds 0 = .ok (.iload_n 1, 1) := by decide +kernel
theorem dX8_kinds_1 : decode cX8_kinds 1 = .ok (.i2l, 1) := by decide +kernel
theorem dX8_kinds_2 : decode cX8_kinds 2 = .ok (.lconst 1, 1) := by decide +kernel
theorem dX8_kinds_3 : decode cX8_kinds 3 = .ok (.ldc2_w 163, 3) := by decide +kernel
theorem dX8_kinds_6 : decode cX8_kinds 6 = .ok (.invokestatic 76, 3) := by decide +kernel
theorem dX8_kinds_9 : decode cX8_kinds 9 = .ok (.ifCond .ne 6, 3) := by decide +kernel
theorem dX8_kinds_12 : decode cX8_kinds 12 = .ok (.bipush (-2), 2) := by decide +kernel
theorem dX8_kinds_14 : decode cX8_kinds 14 = .ok (.ireturn, 1) := by decide +kernel
theorem dX8_kinds_15 : decode cX8_kinds 15 = .ok (.iconst 2, 1) := by decide +kernel
theorem dX8_kinds_16 : decode cX8_kinds 16 = .ok (.iload_n 1, 1) := by decide +kernel
theorem dX8_kinds_17 : decode cX8_kinds 17 = .ok (.imul, 1) := by decide +kernel
theorem dX8_kinds_18 : decode cX8_kinds 18 = .ok (.iload_n 2, 1) := by decide +kernel
theorem dX8_kinds_19 : decode cX8_kinds 19 = .ok (.ifCond .eq 7, 3) := by decide +kernel
theorem dX8_kinds_22 : decode cX8_kinds 22 = .ok (.iconst 1, 1) := by decide +kernel
theorem dX8_kinds_23 : decode cX8_kinds 23 = .ok (.goto 4, 3) := by decide +kernel
theorem dX8_kinds_26 : decode cX8_kinds 26 = .ok (.iconst 0, 1) := by decide +kernel
theorem dX8_kinds_27 : decode cX8_kinds 27 = .ok (.iadd, 1) := by decide +kernel
theorem dX8_kinds_28 : decode cX8_kinds 28 = .ok (.istore_n 3, 1) := by decide +kernel
theorem dX8_kinds_29 : decode cX8_kinds 29 = .ok (.lconst 0, 1) := by decide +kernel
theorem dX8_kinds_30 : decode cX8_kinds 30 = .ok (.lstore 4, 2) := by decide +kernel
theorem dX8_kinds_32 : decode cX8_kinds 32 = .ok (.lload 4, 2) := by decide +kernel
theorem dX8_kinds_34 : decode cX8_kinds 34 = .ok (.iload_n 1, 1) := by decide +kernel
theorem dX8_kinds_35 : decode cX8_kinds 35 = .ok (.invokestatic 94, 3) := by decide +kernel
theorem dX8_kinds_38 : decode cX8_kinds 38 = .ok (.lcmp, 1) := by decide +kernel
theorem dX8_kinds_39 : decode cX8_kinds 39 = .ok (.ifCond .gt 73, 3) := by decide +kernel
theorem dX8_kinds_42 : decode cX8_kinds 42 = .ok (.aload_n 0, 1) := by decide +kernel
theorem dX8_kinds_43 : decode cX8_kinds 43 = .ok (.getfield 49, 3) := by decide +kernel
theorem dX8_kinds_46 : decode cX8_kinds 46 = .ok (.iload_n 3, 1) := by decide +kernel
theorem dX8_kinds_47 : decode cX8_kinds 47 = .ok (.iaload, 1) := by decide +kernel
theorem dX8_kinds_48 : decode cX8_kinds 48 = .ok (.ifCond .eq 10, 3) := by decide +kernel
theorem dX8_kinds_51 : decode cX8_kinds 51 = .ok (.lload 4, 2) := by decide +kernel
theorem dX8_kinds_53 : decode cX8_kinds 53 = .ok (.lconst 0, 1) := by decide +kernel
theorem dX8_kinds_54 : decode cX8_kinds 54 = .ok (.lcmp, 1) := by decide +kernel
theorem dX8_kinds_55 : decode cX8_kinds 55 = .ok (.ifCond .le 57, 3) := by decide +kernel
theorem dX8_kinds_58 : decode cX8_kinds 58 = .ok (.aload_n 0, 1) := by decide +kernel
theorem dX8_kinds_59 : decode cX8_kinds 59 = .ok (.lload 4, 2) := by decide +kernel
theorem dX8_kinds_61 : decode cX8_kinds 61 = .ok (.iload_n 1, 1) := by decide +kernel
theorem dX8_kinds_62 : decode cX8_kinds 62 = .ok (.invokevirtual 184, 3) := by decide +kernel
theorem dX8_kinds_65 : decode cX8_kinds 65 = .ok (.aload_n 0, 1) := by decide +kernel
theorem dX8_kinds_66 : decode cX8_kinds 66 = .ok (.getfield 49, 3) := by decide +kernel
theorem dX8_kinds_69 : decode cX8_kinds 69 = .ok (.iload_n 3, 1) := by decide +kernel
theorem dX8_kinds_70 : decode cX8_kinds 70 = .ok (.dup2, 1) := by decide +kernel
theorem dX8_kinds_71 : decode cX8_kinds 71 = .ok (.iaload, 1) := by decide +kernel
theorem dX8_kinds_72 : decode cX8_kinds 72 = .ok (.aload_n 0, 1) := by decide +kernel
theorem dX8_kinds_73 : decode cX8_kinds 73 = .ok (.getfield 165, 3) := by decide +kernel
theorem dX8_kinds_76 : decode cX8_kinds 76 = .ok (.lload 4, 2) := by decide +kernel
theorem dX8_kinds_78 : decode cX8_kinds 78 = .ok (.lcmp, 1) := by decide +kernel
theorem dX8_kinds_79 : decode cX8_kinds 79 = .ok (.ifCond .ne 21, 3) := by decide +kernel
theorem dX8_kinds_82 : decode cX8_kinds 82 = .ok (.iload_n 2, 1) := by decide +kernel
theorem dX8_kinds_83 : decode cX8_kinds 83 = .ok (.ifCond .ne 13, 3) := by decide +kernel
theorem dX8_kinds_86 : decode cX8_kinds 86 = .ok (.aload_n 0, 1) := by decide +kernel
theorem dX8_kinds_87 : decode cX8_kinds 87 = .ok (.lload 4, 2) := by decide +kernel
theorem dX8_kinds_89 : decode cX8_kinds 89 = .ok (.iload_n 1, 1) := by decide +kernel
theorem dX8_kinds_90 : decode cX8_kinds 90 = .ok (.invokevirtual 139, 3) := by decide +kernel
theorem dX8_kinds_93 : decode cX8_kinds 93 = .ok (.ifCond .eq 7, 3) := by decide +kernel
theorem dX8_kinds_96 : decode cX8_kinds 96 = .ok (.iconst 1, 1) := by decide +kernel
theorem dX8_kinds_97 : decode cX8_kinds 97 = .ok (.goto 4, 3) := by decide +kernel
theorem dX8_kinds_100 : decode cX8_kinds 100 = .ok (.iconst 0, 1) := by decide +kernel
theorem dX8_kinds_101 : decode cX8_kinds 101 = .ok (.iadd, 1) := by decide +kernel
theorem dX8_kinds_102 : decode cX8_kinds 102 = .ok (.iastore, 1) := by decide +kernel
theorem dX8_kinds_103 : decode cX8_kinds 103 = .ok (.lload 4, 2) := by decide +kernel
theorem dX8_kinds_105 : decode cX8_kinds 105 = .ok (.lconst 1, 1) := by decide +kernel
theorem dX8_kinds_106 : decode cX8_kinds 106 = .ok (.ladd, 1) := by decide +kernel
theorem dX8_kinds_107 : decode cX8_kinds 107 = .ok (.lstore 4, 2) := by decide +kernel
theorem dX8_kinds_109 : decode cX8_kinds 109 = .ok (.goto (-77), 3) := by decide +kernel
theorem dX8_kinds_112 : decode cX8_kinds 112 = .ok (.aload_n 0, 1) := by decide +kernel
theorem dX8_kinds_113 : decode cX8_kinds 113 = .ok (.ldc2_w 27, 3) := by decide +kernel
theorem dX8_kinds_116 : decode cX8_kinds 116 = .ok (.putfield 29, 3) := by decide +kernel
theorem dX8_kinds_119 : decode cX8_kinds 119 = .ok (.aload_n 0, 1) := by decide +kernel
theorem dX8_kinds_120 : decode cX8_kinds 120 = .ok (.getfield 49, 3) := by decide +kernel
theorem dX8_kinds_123 : decode cX8_kinds 123 = .ok (.iload_n 3, 1) := by decide +kernel
theorem dX8_kinds_124 : decode cX8_kinds 124 = .ok (.iaload, 1) := by decide +kernel
theorem dX8_kinds_125 : decode cX8_kinds 125 = .ok (.ireturn, 1) := by decide +kernel
theorem dX8_isSecond_0 : decode cX8_isSecond 0 = .ok (.iconst 1, 1) := by decide +kernel
theorem dX8_isSecond_1 : decode cX8_isSecond 1 = .ok (.istore 4, 2) := by decide +kernel
theorem dX8_isSecond_3 : decode cX8_isSecond 3 = .ok (.iconst 0, 1) := by decide +kernel
theorem dX8_isSecond_4 : decode cX8_isSecond 4 = .ok (.istore 5, 2) := by decide +kernel
theorem dX8_isSecond_6 : decode cX8_isSecond 6 = .ok (.iload 5, 2) := by decide +kernel
theorem dX8_isSecond_8 : decode cX8_isSecond 8 = .ok (.iload_n 2, 1) := by decide +kernel
theorem dX8_isSecond_9 : decode cX8_isSecond 9 = .ok (.if_icmp .gt 16, 3) := by decide +kernel
theorem dX8_isSecond_12 : decode cX8_isSecond 12 = .ok (.iload 4, 2) := by decide +kernel
theorem dX8_isSecond_14 : decode cX8_isSecond 14 = .ok (.bipush 7, 2) := by decide +kernel
theorem dX8_isSecond_16 : decode cX8_isSecond 16 = .ok (.imul, 1) := by decide +kernel
theorem dX8_isSecond_17 : decode cX8_isSecond 17 = .ok (.istore 4, 2) := by decide +kernel
theorem dX8_isSecond_19 : decode cX8_isSecond 19 = .ok (.iinc 5 1, 3) := by decide +kernel
theorem dX8_isSecond_22 : decode cX8_isSecond 22 = .ok (.goto (-16), 3) := by decide +kernel
theorem dX8_isSecond_25 : decode cX8_isSecond 25 = .ok (.iconst 0, 1) := by decide +kernel
theorem dX8_isSecond_26 : decode cX8_isSecond 26 = .ok (.istore 5, 2) := by decide +kernel
theorem dX8_isSecond_28 : decode cX8_isSecond 28 = .ok (.iload 5, 2) := by decide +kernel
theorem dX8_isSecond_30 : decode cX8_isSecond 30 = .ok (.iload 4, 2) := by decide +kernel
theorem dX8_isSecond_32 : decode cX8_isSecond 32 = .ok (.if_icmp .ge 182, 3) := by decide +kernel
theorem dX8_isSecond_35 : decode cX8_isSecond 35 = .ok (.sipush 1000, 3) := by decide +kernel
theorem dX8_isSecond_38 : decode cX8_isSecond 38 = .ok (.istore 6, 2) := by decide +kernel
theorem dX8_isSecond_40 : decode cX8_isSecond 40 = .ok (.sipush (-1000), 3) := by decide +kernel
theorem dX8_isSecond_43 : decode cX8_isSecond 43 = .ok (.istore 7, 2) := by decide +kernel
theorem dX8_isSecond_45 : decode cX8_isSecond 45 = .ok (.iconst 0, 1) := by decide +kernel
theorem dX8_isSecond_46 : decode cX8_isSecond 46 = .ok (.istore 8, 2) := by decide +kernel
theorem dX8_isSecond_48 : decode cX8_isSecond 48 = .ok (.iload 8, 2) := by decide +kernel
theorem dX8_isSecond_50 : decode cX8_isSecond 50 = .ok (.iconst 1, 1) := by decide +kernel
theorem dX8_isSecond_51 : decode cX8_isSecond 51 = .ok (.iload_n 2, 1) := by decide +kernel
theorem dX8_isSecond_52 : decode cX8_isSecond 52 = .ok (.ishl, 1) := by decide +kernel
theorem dX8_isSecond_53 : decode cX8_isSecond 53 = .ok (.if_icmp .ge 146, 3) := by decide +kernel
theorem dX8_isSecond_56 : decode cX8_isSecond 56 = .ok (.iload 5, 2) := by decide +kernel
theorem dX8_isSecond_58 : decode cX8_isSecond 58 = .ok (.istore 9, 2) := by decide +kernel
theorem dX8_isSecond_60 : decode cX8_isSecond 60 = .ok (.iconst 0, 1) := by decide +kernel
theorem dX8_isSecond_61 : decode cX8_isSecond 61 = .ok (.istore 10, 2) := by decide +kernel
theorem dX8_isSecond_63 : decode cX8_isSecond 63 = .ok (.iconst 0, 1) := by decide +kernel
theorem dX8_isSecond_64 : decode cX8_isSecond 64 = .ok (.istore 11, 2) := by decide +kernel
theorem dX8_isSecond_66 : decode cX8_isSecond 66 = .ok (.iload 11, 2) := by decide +kernel
theorem dX8_isSecond_68 : decode cX8_isSecond 68 = .ok (.iload_n 2, 1) := by decide +kernel
theorem dX8_isSecond_69 : decode cX8_isSecond 69 = .ok (.if_icmp .gt 79, 3) := by decide +kernel
theorem dX8_isSecond_72 : decode cX8_isSecond 72 = .ok (.iload 11, 2) := by decide +kernel
theorem dX8_isSecond_74 : decode cX8_isSecond 74 = .ok (.iload_n 2, 1) := by decide +kernel
theorem dX8_isSecond_75 : decode cX8_isSecond 75 = .ok (.if_icmp .ge 22, 3) := by decide +kernel
theorem dX8_isSecond_78 : decode cX8_isSecond 78 = .ok (.iload 8, 2) := by decide +kernel
theorem dX8_isSecond_80 : decode cX8_isSecond 80 = .ok (.iload 11, 2) := by decide +kernel
theorem dX8_isSecond_82 : decode cX8_isSecond 82 = .ok (.ishr, 1) := by decide +kernel
theorem dX8_isSecond_83 : decode cX8_isSecond 83 = .ok (.iconst 1, 1) := by decide +kernel
theorem dX8_isSecond_84 : decode cX8_isSecond 84 = .ok (.iand, 1) := by decide +kernel
theorem dX8_isSecond_85 : decode cX8_isSecond 85 = .ok (.iconst 1, 1) := by decide +kernel
theorem dX8_isSecond_86 : decode cX8_isSecond 86 = .ok (.if_icmp .ne 7, 3) := by decide +kernel
theorem dX8_isSecond_89 : decode cX8_isSecond 89 = .ok (.iconst 1, 1) := by decide +kernel
theorem dX8_isSecond_90 : decode cX8_isSecond 90 = .ok (.goto 22, 3) := by decide +kernel
theorem dX8_isSecond_93 : decode cX8_isSecond 93 = .ok (.iconst 0, 1) := by decide +kernel
theorem dX8_isSecond_94 : decode cX8_isSecond 94 = .ok (.goto 18, 3) := by decide +kernel
theorem dX8_isSecond_97 : decode cX8_isSecond 97 = .ok (.iload_n 3, 1) := by decide +kernel
theorem dX8_isSecond_98 : decode cX8_isSecond 98 = .ok (.iload 8, 2) := by decide +kernel
theorem dX8_isSecond_100 : decode cX8_isSecond 100 = .ok (.ishr, 1) := by decide +kernel
theorem dX8_isSecond_101 : decode cX8_isSecond 101 = .ok (.iconst 1, 1) := by decide +kernel
theorem dX8_isSecond_102 : decode cX8_isSecond 102 = .ok (.iand, 1) := by decide +kernel
theorem dX8_isSecond_103 : decode cX8_isSecond 103 = .ok (.iconst 1, 1) := by decide +kernel
theorem dX8_isSecond_104 : decode cX8_isSecond 104 = .ok (.if_icmp .ne 7, 3) := by decide +kernel
theorem dX8_isSecond_107 : decode cX8_isSecond 107 = .ok (.iconst 1, 1) := by decide +kernel
theorem dX8_isSecond_108 : decode cX8_isSecond 108 = .ok (.goto 4, 3) := by decide +kernel
theorem dX8_isSecond_111 : decode cX8_isSecond 111 = .ok (.iconst 0, 1) := by decide +kernel
theorem dX8_isSecond_112 : decode cX8_isSecond 112 = .ok (.istore 12, 2) := by decide +kernel
theorem dX8_isSecond_114 : decode cX8_isSecond 114 = .ok (.iload 10, 2) := by decide +kernel
theorem dX8_isSecond_116 : decode cX8_isSecond 116 = .ok (.iload 12, 2) := by decide +kernel
theorem dX8_isSecond_118 : decode cX8_isSecond 118 = .ok (.ifCond .eq 13, 3) := by decide +kernel
theorem dX8_isSecond_121 : decode cX8_isSecond 121 = .ok (.iload 9, 2) := by decide +kernel
theorem dX8_isSecond_123 : decode cX8_isSecond 123 = .ok (.bipush 7, 2) := by decide +kernel
theorem dX8_isSecond_125 : decode cX8_isSecond 125 = .ok (.irem, 1) := by decide +kernel
theorem dX8_isSecond_126 : decode cX8_isSecond 126 = .ok (.iconst 3, 1) := by decide +kernel
theorem dX8_isSecond_127 : decode cX8_isSecond 127 = .ok (.isub, 1) := by decide +kernel
theorem dX8_isSecond_128 : decode cX8_isSecond 128 = .ok (.goto 4, 3) := by decide +kernel
theorem dX8_isSecond_131 : decode cX8_isSecond 131 = .ok (.iconst 0, 1) := by decide +kernel
theorem dX8_isSecond_132 : decode cX8_isSecond 132 = .ok (.iadd, 1) := by decide +kernel
theorem dX8_isSecond_133 : decode cX8_isSecond 133 = .ok (.istore 10, 2) := by decide +kernel
theorem dX8_isSecond_135 : decode cX8_isSecond 135 = .ok (.iload 9, 2) := by decide +kernel
theorem dX8_isSecond_137 : decode cX8_isSecond 137 = .ok (.bipush 7, 2) := by decide +kernel
theorem dX8_isSecond_139 : decode cX8_isSecond 139 = .ok (.idiv, 1) := by decide +kernel
theorem dX8_isSecond_140 : decode cX8_isSecond 140 = .ok (.istore 9, 2) := by decide +kernel
theorem dX8_isSecond_142 : decode cX8_isSecond 142 = .ok (.iinc 11 1, 3) := by decide +kernel
theorem dX8_isSecond_145 : decode cX8_isSecond 145 = .ok (.goto (-79), 3) := by decide +kernel
theorem dX8_isSecond_148 : decode cX8_isSecond 148 = .ok (.iload_n 1, 1) := by decide +kernel
theorem dX8_isSecond_149 : decode cX8_isSecond 149 = .ok (.iload 8, 2) := by decide +kernel
theorem dX8_isSecond_151 : decode cX8_isSecond 151 = .ok (.ishr, 1) := by decide +kernel
theorem dX8_isSecond_152 : decode cX8_isSecond 152 = .ok (.iconst 1, 1) := by decide +kernel
theorem dX8_isSecond_153 : decode cX8_isSecond 153 = .ok (.iand, 1) := by decide +kernel
theorem dX8_isSecond_154 : decode cX8_isSecond 154 = .ok (.iconst 1, 1) := by decide +kernel
theorem dX8_isSecond_155 : decode cX8_isSecond 155 = .ok (.if_icmp .ne 22, 3) := by decide +kernel
theorem dX8_isSecond_158 : decode cX8_isSecond 158 = .ok (.iload 10, 2) := by decide +kernel
theorem dX8_isSecond_160 : decode cX8_isSecond 160 = .ok (.iload 6, 2) := by decide +kernel
theorem dX8_isSecond_162 : decode cX8_isSecond 162 = .ok (.if_icmp .ge 8, 3) := by decide +kernel
theorem dX8_isSecond_165 : decode cX8_isSecond 165 = .ok (.iload 10, 2) := by decide +kernel
theorem dX8_isSecond_167 : decode cX8_isSecond 167 = .ok (.goto 5, 3) := by decide +kernel
theorem dX8_isSecond_170 : decode cX8_isSecond 170 = .ok (.iload 6, 2) := by decide +kernel
theorem dX8_isSecond_172 : decode cX8_isSecond 172 = .ok (.istore 6, 2) := by decide +kernel
theorem dX8_isSecond_174 : decode cX8_isSecond 174 = .ok (.goto 19, 3) := by decide +kernel
theorem dX8_isSecond_177 : decode cX8_isSecond 177 = .ok (.iload 10, 2) := by decide +kernel
theorem dX8_isSecond_179 : decode cX8_isSecond 179 = .ok (.iload 7, 2) := by decide +kernel
theorem dX8_isSecond_181 : decode cX8_isSecond 181 = .ok (.if_icmp .le 8, 3) := by decide +kernel
theorem dX8_isSecond_184 : decode cX8_isSecond 184 = .ok (.iload 10, 2) := by decide +kernel
theorem dX8_isSecond_186 : decode cX8_isSecond 186 = .ok (.goto 5, 3) := by decide +kernel
theorem dX8_isSecond_189 : decode cX8_isSecond 189 = .ok (.iload 7, 2) := by decide +kernel
theorem dX8_isSecond_191 : decode cX8_isSecond 191 = .ok (.istore 7, 2) := by decide +kernel
theorem dX8_isSecond_193 : decode cX8_isSecond 193 = .ok (.iinc 8 1, 3) := by decide +kernel
theorem dX8_isSecond_196 : decode cX8_isSecond 196 = .ok (.goto (-148), 3) := by decide +kernel
theorem dX8_isSecond_199 : decode cX8_isSecond 199 = .ok (.iload 6, 2) := by decide +kernel
theorem dX8_isSecond_201 : decode cX8_isSecond 201 = .ok (.iload 7, 2) := by decide +kernel
theorem dX8_isSecond_203 : decode cX8_isSecond 203 = .ok (.if_icmp .le 5, 3) := by decide +kernel
theorem dX8_isSecond_206 : decode cX8_isSecond 206 = .ok (.iconst 1, 1) := by decide +kernel
theorem dX8_isSecond_207 : decode cX8_isSecond 207 = .ok (.ireturn, 1) := by decide +kernel
theorem dX8_isSecond_208 : decode cX8_isSecond 208 = .ok (.iinc 5 1, 3) := by decide +kernel
theorem dX8_isSecond_211 : decode cX8_isSecond 211 = .ok (.goto (-183), 3) := by decide +kernel
theorem dX8_isSecond_214 : decode cX8_isSecond 214 = .ok (.iconst 0, 1) := by decide +kernel
theorem dX8_isSecond_215 : decode cX8_isSecond 215 = .ok (.ireturn, 1) := by decide +kernel
theorem dX8_asThree_0 : decode cX8_asThree 0 = .ok (.lload_n 0, 1) := by decide +kernel
theorem dX8_asThree_1 : decode cX8_asThree 1 = .ok (.lstore_n 3, 1) := by decide +kernel
theorem dX8_asThree_2 : decode cX8_asThree 2 = .ok (.iload_n 2, 1) := by decide +kernel
theorem dX8_asThree_3 : decode cX8_asThree 3 = .ok (.istore 5, 2) := by decide +kernel
theorem dX8_asThree_5 : decode cX8_asThree 5 = .ok (.iload 5, 2) := by decide +kernel
theorem dX8_asThree_7 : decode cX8_asThree 7 = .ok (.iconst 3, 1) := by decide +kernel
theorem dX8_asThree_8 : decode cX8_asThree 8 = .ok (.if_icmp .ge 18, 3) := by decide +kernel
theorem dX8_asThree_11 : decode cX8_asThree 11 = .ok (.lload_n 3, 1) := by decide +kernel
theorem dX8_asThree_12 : decode cX8_asThree 12 = .ok (.lload_n 3, 1) := by decide +kernel
theorem dX8_asThree_13 : decode cX8_asThree 13 = .ok (.iconst 1, 1) := by decide +kernel
theorem dX8_asThree_14 : decode cX8_asThree 14 = .ok (.iload 5, 2) := by decide +kernel
theorem dX8_asThree_16 : decode cX8_asThree 16 = .ok (.ishl, 1) := by decide +kernel
theorem dX8_asThree_17 : decode cX8_asThree 17 = .ok (.lshl, 1) := by decide +kernel
theorem dX8_asThree_18 : decode cX8_asThree 18 = .ok (.lor, 1) := by decide +kernel
theorem dX8_asThree_19 : decode cX8_asThree 19 = .ok (.lstore_n 3, 1) := by decide +kernel
theorem dX8_asThree_20 : decode cX8_asThree 20 = .ok (.iinc 5 1, 3) := by decide +kernel
theorem dX8_asThree_23 : decode cX8_asThree 23 = .ok (.goto (-18), 3) := by decide +kernel
theorem dX8_asThree_26 : decode cX8_asThree 26 = .ok (.lload_n 3, 1) := by decide +kernel
theorem dX8_asThree_27 : decode cX8_asThree 27 = .ok (.l2i, 1) := by decide +kernel
theorem dX8_asThree_28 : decode cX8_asThree 28 = .ok (.ireturn, 1) := by decide +kernel
theorem dX8_firstOf_0 : decode cX8_firstOf 0 = .ok (.lload_n 1, 1) := by decide +kernel
theorem dX8_firstOf_1 : decode cX8_firstOf 1 = .ok (.iload_n 3, 1) := by decide +kernel
theorem dX8_firstOf_2 : decode cX8_firstOf 2 = .ok (.invokestatic 189, 3) := by decide +kernel
theorem dX8_firstOf_5 : decode cX8_firstOf 5 = .ok (.istore 4, 2) := by decide +kernel
theorem dX8_firstOf_7 : decode cX8_firstOf 7 = .ok (.iload_n 3, 1) := by decide +kernel
theorem dX8_firstOf_8 : decode cX8_firstOf 8 = .ok (.iconst 3, 1) := by decide +kernel
theorem dX8_firstOf_9 : decode cX8_firstOf 9 = .ok (.if_icmp .ne 23, 3) := by decide +kernel
theorem dX8_firstOf_12 : decode cX8_firstOf 12 = .ok (.aload_n 0, 1) := by decide +kernel
theorem dX8_firstOf_13 : decode cX8_firstOf 13 = .ok (.getfield 52, 3) := by decide +kernel
theorem dX8_firstOf_16 : decode cX8_firstOf 16 = .ok (.iload 4, 2) := by decide +kernel
theorem dX8_firstOf_18 : decode cX8_firstOf 18 = .ok (.iaload, 1) := by decide +kernel
theorem dX8_firstOf_19 : decode cX8_firstOf 19 = .ok (.bipush (-2), 2) := by decide +kernel
theorem dX8_firstOf_21 : decode cX8_firstOf 21 = .ok (.if_icmp .eq 11, 3) := by decide +kernel
theorem dX8_firstOf_24 : decode cX8_firstOf 24 = .ok (.aload_n 0, 1) := by decide +kernel
theorem dX8_firstOf_25 : decode cX8_firstOf 25 = .ok (.getfield 52, 3) := by decide +kernel
theorem dX8_firstOf_28 : decode cX8_firstOf 28 = .ok (.iload 4, 2) := by decide +kernel
theorem dX8_firstOf_30 : decode cX8_firstOf 30 = .ok (.iaload, 1) := by decide +kernel
theorem dX8_firstOf_31 : decode cX8_firstOf 31 = .ok (.ireturn, 1) := by decide +kernel
theorem dX8_firstOf_32 : decode cX8_firstOf 32 = .ok (.iconst (-1), 1) := by decide +kernel
theorem dX8_firstOf_33 : decode cX8_firstOf 33 = .ok (.istore 5, 2) := by decide +kernel
theorem dX8_firstOf_35 : decode cX8_firstOf 35 = .ok (.iconst 0, 1) := by decide +kernel
theorem dX8_firstOf_36 : decode cX8_firstOf 36 = .ok (.istore 6, 2) := by decide +kernel
theorem dX8_firstOf_38 : decode cX8_firstOf 38 = .ok (.iload 6, 2) := by decide +kernel
theorem dX8_firstOf_40 : decode cX8_firstOf 40 = .ok (.i2l, 1) := by decide +kernel
theorem dX8_firstOf_41 : decode cX8_firstOf 41 = .ok (.iload_n 3, 1) := by decide +kernel
theorem dX8_firstOf_42 : decode cX8_firstOf 42 = .ok (.invokestatic 94, 3) := by decide +kernel
theorem dX8_firstOf_45 : decode cX8_firstOf 45 = .ok (.lcmp, 1) := by decide +kernel
theorem dX8_firstOf_46 : decode cX8_firstOf 46 = .ok (.ifCond .gt 45, 3) := by decide +kernel
theorem dX8_firstOf_49 : decode cX8_firstOf 49 = .ok (.iload 5, 2) := by decide +kernel
theorem dX8_firstOf_51 : decode cX8_firstOf 51 = .ok (.ifCond .ge 40, 3) := by decide +kernel
theorem dX8_firstOf_54 : decode cX8_firstOf 54 = .ok (.aload_n 0, 1) := by decide +kernel
theorem dX8_firstOf_55 : decode cX8_firstOf 55 = .ok (.iload 6, 2) := by decide +kernel
theorem dX8_firstOf_57 : decode cX8_firstOf 57 = .ok (.i2l, 1) := by decide +kernel
theorem dX8_firstOf_58 : decode cX8_firstOf 58 = .ok (.iload_n 3, 1) := by decide +kernel
theorem dX8_firstOf_59 : decode cX8_firstOf 59 = .ok (.invokevirtual 139, 3) := by decide +kernel
theorem dX8_firstOf_62 : decode cX8_firstOf 62 = .ok (.ifCond .eq 20, 3) := by decide +kernel
theorem dX8_firstOf_65 : decode cX8_firstOf 65 = .ok (.aload_n 0, 1) := by decide +kernel
theorem dX8_firstOf_66 : decode cX8_firstOf 66 = .ok (.lload_n 1, 1) := by decide +kernel
theorem dX8_firstOf_67 : decode cX8_firstOf 67 = .ok (.l2i, 1) := by decide +kernel
theorem dX8_firstOf_68 : decode cX8_firstOf 68 = .ok (.iload_n 3, 1) := by decide +kernel
theorem dX8_firstOf_69 : decode cX8_firstOf 69 = .ok (.iload 6, 2) := by decide +kernel
theorem dX8_firstOf_71 : decode cX8_firstOf 71 = .ok (.invokevirtual 192, 3) := by decide +kernel
theorem dX8_firstOf_74 : decode cX8_firstOf 74 = .ok (.ifCond .eq 8, 3) := by decide +kernel
theorem dX8_firstOf_77 : decode cX8_firstOf 77 = .ok (.iload 6, 2) := by decide +kernel
theorem dX8_firstOf_79 : decode cX8_firstOf 79 = .ok (.goto 4, 3) := by decide +kernel
theorem dX8_firstOf_82 : decode cX8_firstOf 82 = .ok (.iconst (-1), 1) := by decide +kernel
theorem dX8_firstOf_83 : decode cX8_firstOf 83 = .ok (.istore 5, 2) := by decide +kernel
theorem dX8_firstOf_85 : decode cX8_firstOf 85 = .ok (.iinc 6 1, 3) := by decide +kernel
theorem dX8_firstOf_88 : decode cX8_firstOf 88 = .ok (.goto (-50), 3) := by decide +kernel
theorem dX8_firstOf_91 : decode cX8_firstOf 91 = .ok (.iload_n 3, 1) := by decide +kernel
theorem dX8_firstOf_92 : decode cX8_firstOf 92 = .ok (.iconst 3, 1) := by decide +kernel
theorem dX8_firstOf_93 : decode cX8_firstOf 93 = .ok (.if_icmp .ne 12, 3) := by decide +kernel
theorem dX8_firstOf_96 : decode cX8_firstOf 96 = .ok (.aload_n 0, 1) := by decide +kernel
theorem dX8_firstOf_97 : decode cX8_firstOf 97 = .ok (.getfield 52, 3) := by decide +kernel
theorem dX8_firstOf_100 : decode cX8_firstOf 100 = .ok (.iload 4, 2) := by decide +kernel
theorem dX8_firstOf_102 : decode cX8_firstOf 102 = .ok (.iload 5, 2) := by decide +kernel
theorem dX8_firstOf_104 : decode cX8_firstOf 104 = .ok (.iastore, 1) := by decide +kernel
theorem dX8_firstOf_105 : decode cX8_firstOf 105 = .ok (.iload 5, 2) := by decide +kernel
theorem dX8_firstOf_107 : decode cX8_firstOf 107 = .ok (.ireturn, 1) := by decide +kernel
theorem dX8_fewest_0 : decode cX8_fewest 0 = .ok (.iload_n 1, 1) := by decide +kernel
theorem dX8_fewest_1 : decode cX8_fewest 1 = .ok (.invokestatic 88, 3) := by decide +kernel
theorem dX8_fewest_4 : decode cX8_fewest 4 = .ok (.ifCond .ne 5, 3) := by decide +kernel
theorem dX8_fewest_7 : decode cX8_fewest 7 = .ok (.iconst (-1), 1) := by decide +kernel
theorem dX8_fewest_8 : decode cX8_fewest 8 = .ok (.ireturn, 1) := by decide +kernel
theorem dX8_fewest_9 : decode cX8_fewest 9 = .ok (.aload_n 0, 1) := by decide +kernel
theorem dX8_fewest_10 : decode cX8_fewest 10 = .ok (.getfield 7, 3) := by decide +kernel
theorem dX8_fewest_13 : decode cX8_fewest 13 = .ok (.iload_n 1, 1) := by decide +kernel
theorem dX8_fewest_14 : decode cX8_fewest 14 = .ok (.iaload, 1) := by decide +kernel
theorem dX8_fewest_15 : decode cX8_fewest 15 = .ok (.iconst 3, 1) := by decide +kernel
theorem dX8_fewest_16 : decode cX8_fewest 16 = .ok (.if_icmp .le 6, 3) := by decide +kernel
theorem dX8_fewest_19 : decode cX8_fewest 19 = .ok (.bipush (-3), 2) := by decide +kernel
theorem dX8_fewest_21 : decode cX8_fewest 21 = .ok (.ireturn, 1) := by decide +kernel
theorem dX8_fewest_22 : decode cX8_fewest 22 = .ok (.aload_n 0, 1) := by decide +kernel
theorem dX8_fewest_23 : decode cX8_fewest 23 = .ok (.aload_n 0, 1) := by decide +kernel
theorem dX8_fewest_24 : decode cX8_fewest 24 = .ok (.getfield 13, 3) := by decide +kernel
theorem dX8_fewest_27 : decode cX8_fewest 27 = .ok (.iload_n 1, 1) := by decide +kernel
theorem dX8_fewest_28 : decode cX8_fewest 28 = .ok (.laload, 1) := by decide +kernel
theorem dX8_fewest_29 : decode cX8_fewest 29 = .ok (.aload_n 0, 1) := by decide +kernel
theorem dX8_fewest_30 : decode cX8_fewest 30 = .ok (.getfield 7, 3) := by decide +kernel
theorem dX8_fewest_33 : decode cX8_fewest 33 = .ok (.iload_n 1, 1) := by decide +kernel
theorem dX8_fewest_34 : decode cX8_fewest 34 = .ok (.iaload, 1) := by decide +kernel
theorem dX8_fewest_35 : decode cX8_fewest 35 = .ok (.invokevirtual 160, 3) := by decide +kernel
theorem dX8_fewest_38 : decode cX8_fewest 38 = .ok (.aload_n 0, 1) := by decide +kernel
theorem dX8_fewest_39 : decode cX8_fewest 39 = .ok (.getfield 142, 3) := by decide +kernel
theorem dX8_fewest_42 : decode cX8_fewest 42 = .ok (.ifCond .eq 7, 3) := by decide +kernel
theorem dX8_fewest_45 : decode cX8_fewest 45 = .ok (.iconst 0, 1) := by decide +kernel
theorem dX8_fewest_46 : decode cX8_fewest 46 = .ok (.goto 19, 3) := by decide +kernel
theorem dX8_fewest_49 : decode cX8_fewest 49 = .ok (.aload_n 0, 1) := by decide +kernel
theorem dX8_fewest_50 : decode cX8_fewest 50 = .ok (.aload_n 0, 1) := by decide +kernel
theorem dX8_fewest_51 : decode cX8_fewest 51 = .ok (.getfield 13, 3) := by decide +kernel
theorem dX8_fewest_54 : decode cX8_fewest 54 = .ok (.iload_n 1, 1) := by decide +kernel
theorem dX8_fewest_55 : decode cX8_fewest 55 = .ok (.laload, 1) := by decide +kernel
theorem dX8_fewest_56 : decode cX8_fewest 56 = .ok (.aload_n 0, 1) := by decide +kernel
theorem dX8_fewest_57 : decode cX8_fewest 57 = .ok (.getfield 7, 3) := by decide +kernel
theorem dX8_fewest_60 : decode cX8_fewest 60 = .ok (.iload_n 1, 1) := by decide +kernel
theorem dX8_fewest_61 : decode cX8_fewest 61 = .ok (.iaload, 1) := by decide +kernel
theorem dX8_fewest_62 : decode cX8_fewest 62 = .ok (.invokevirtual 196, 3) := by decide +kernel
theorem dX8_fewest_65 : decode cX8_fewest 65 = .ok (.istore_n 2, 1) := by decide +kernel
theorem dX8_fewest_66 : decode cX8_fewest 66 = .ok (.aload_n 0, 1) := by decide +kernel
theorem dX8_fewest_67 : decode cX8_fewest 67 = .ok (.ldc2_w 27, 3) := by decide +kernel
theorem dX8_fewest_70 : decode cX8_fewest 70 = .ok (.putfield 29, 3) := by decide +kernel
theorem dX8_fewest_73 : decode cX8_fewest 73 = .ok (.aload_n 0, 1) := by decide +kernel
theorem dX8_fewest_74 : decode cX8_fewest 74 = .ok (.iload_n 1, 1) := by decide +kernel
theorem dX8_fewest_75 : decode cX8_fewest 75 = .ok (.invokevirtual 199, 3) := by decide +kernel
theorem dX8_fewest_78 : decode cX8_fewest 78 = .ok (.ifCond .eq 7, 3) := by decide +kernel
theorem dX8_fewest_81 : decode cX8_fewest 81 = .ok (.iconst 1, 1) := by decide +kernel
theorem dX8_fewest_82 : decode cX8_fewest 82 = .ok (.goto 12, 3) := by decide +kernel
theorem dX8_fewest_85 : decode cX8_fewest 85 = .ok (.iload_n 2, 1) := by decide +kernel
theorem dX8_fewest_86 : decode cX8_fewest 86 = .ok (.ifCond .ge 7, 3) := by decide +kernel
theorem dX8_fewest_89 : decode cX8_fewest 89 = .ok (.iconst 3, 1) := by decide +kernel
theorem dX8_fewest_90 : decode cX8_fewest 90 = .ok (.goto 4, 3) := by decide +kernel
theorem dX8_fewest_93 : decode cX8_fewest 93 = .ok (.iconst 2, 1) := by decide +kernel
theorem dX8_fewest_94 : decode cX8_fewest 94 = .ok (.ireturn, 1) := by decide +kernel
theorem dX8_inputsGate_0 : decode cX8_inputsGate 0 = .ok (.aload_n 0, 1) := by decide +kernel
theorem dX8_inputsGate_1 : decode cX8_inputsGate 1 = .ok (.aload_n 0, 1) := by decide +kernel
theorem dX8_inputsGate_2 : decode cX8_inputsGate 2 = .ok (.getfield 13, 3) := by decide +kernel
theorem dX8_inputsGate_5 : decode cX8_inputsGate 5 = .ok (.iload_n 1, 1) := by decide +kernel
theorem dX8_inputsGate_6 : decode cX8_inputsGate 6 = .ok (.laload, 1) := by decide +kernel
theorem dX8_inputsGate_7 : decode cX8_inputsGate 7 = .ok (.aload_n 0, 1) := by decide +kernel
theorem dX8_inputsGate_8 : decode cX8_inputsGate 8 = .ok (.getfield 7, 3) := by decide +kernel
theorem dX8_inputsGate_11 : decode cX8_inputsGate 11 = .ok (.iload_n 1, 1) := by decide +kernel
theorem dX8_inputsGate_12 : decode cX8_inputsGate 12 = .ok (.iaload, 1) := by decide +kernel
theorem dX8_inputsGate_13 : decode cX8_inputsGate 13 = .ok (.invokevirtual 160, 3) := by decide +kernel
theorem dX8_inputsGate_16 : decode cX8_inputsGate 16 = .ok (.aload_n 0, 1) := by decide +kernel
theorem dX8_inputsGate_17 : decode cX8_inputsGate 17 = .ok (.getfield 142, 3) := by decide +kernel
theorem dX8_inputsGate_20 : decode cX8_inputsGate 20 = .ok (.ireturn, 1) := by decide +kernel
theorem dX8_first_0 : decode cX8_first 0 = .ok (.iload_n 1, 1) := by decide +kernel
theorem dX8_first_1 : decode cX8_first 1 = .ok (.invokestatic 88, 3) := by decide +kernel
theorem dX8_first_4 : decode cX8_first 4 = .ok (.ifCond .ne 5, 3) := by decide +kernel
theorem dX8_first_7 : decode cX8_first 7 = .ok (.iconst (-1), 1) := by decide +kernel
theorem dX8_first_8 : decode cX8_first 8 = .ok (.ireturn, 1) := by decide +kernel
theorem dX8_first_9 : decode cX8_first 9 = .ok (.aload_n 0, 1) := by decide +kernel
theorem dX8_first_10 : decode cX8_first 10 = .ok (.getfield 7, 3) := by decide +kernel
theorem dX8_first_13 : decode cX8_first 13 = .ok (.iload_n 1, 1) := by decide +kernel
theorem dX8_first_14 : decode cX8_first 14 = .ok (.iaload, 1) := by decide +kernel
theorem dX8_first_15 : decode cX8_first 15 = .ok (.iconst 3, 1) := by decide +kernel
theorem dX8_first_16 : decode cX8_first 16 = .ok (.if_icmp .le 6, 3) := by decide +kernel
theorem dX8_first_19 : decode cX8_first 19 = .ok (.bipush (-3), 2) := by decide +kernel
theorem dX8_first_21 : decode cX8_first 21 = .ok (.ireturn, 1) := by decide +kernel
theorem dX8_first_22 : decode cX8_first 22 = .ok (.aload_n 0, 1) := by decide +kernel
theorem dX8_first_23 : decode cX8_first 23 = .ok (.iload_n 1, 1) := by decide +kernel
theorem dX8_first_24 : decode cX8_first 24 = .ok (.invokevirtual 199, 3) := by decide +kernel
theorem dX8_first_27 : decode cX8_first 27 = .ok (.ifCond .eq 6, 3) := by decide +kernel
theorem dX8_first_30 : decode cX8_first 30 = .ok (.ldc 112, 2) := by decide +kernel
theorem dX8_first_32 : decode cX8_first 32 = .ok (.ireturn, 1) := by decide +kernel
theorem dX8_first_33 : decode cX8_first 33 = .ok (.aload_n 0, 1) := by decide +kernel
theorem dX8_first_34 : decode cX8_first 34 = .ok (.aload_n 0, 1) := by decide +kernel
theorem dX8_first_35 : decode cX8_first 35 = .ok (.getfield 13, 3) := by decide +kernel
theorem dX8_first_38 : decode cX8_first 38 = .ok (.iload_n 1, 1) := by decide +kernel
theorem dX8_first_39 : decode cX8_first 39 = .ok (.laload, 1) := by decide +kernel
theorem dX8_first_40 : decode cX8_first 40 = .ok (.aload_n 0, 1) := by decide +kernel
theorem dX8_first_41 : decode cX8_first 41 = .ok (.getfield 7, 3) := by decide +kernel
theorem dX8_first_44 : decode cX8_first 44 = .ok (.iload_n 1, 1) := by decide +kernel
theorem dX8_first_45 : decode cX8_first 45 = .ok (.iaload, 1) := by decide +kernel
theorem dX8_first_46 : decode cX8_first 46 = .ok (.invokevirtual 196, 3) := by decide +kernel
theorem dX8_first_49 : decode cX8_first 49 = .ok (.istore_n 2, 1) := by decide +kernel
theorem dX8_first_50 : decode cX8_first 50 = .ok (.aload_n 0, 1) := by decide +kernel
theorem dX8_first_51 : decode cX8_first 51 = .ok (.ldc2_w 27, 3) := by decide +kernel
theorem dX8_first_54 : decode cX8_first 54 = .ok (.putfield 29, 3) := by decide +kernel
theorem dX8_first_57 : decode cX8_first 57 = .ok (.iload_n 2, 1) := by decide +kernel
theorem dX8_first_58 : decode cX8_first 58 = .ok (.ifCond .ge 8, 3) := by decide +kernel
theorem dX8_first_61 : decode cX8_first 61 = .ok (.ldc 112, 2) := by decide +kernel
theorem dX8_first_63 : decode cX8_first 63 = .ok (.goto 4, 3) := by decide +kernel
theorem dX8_first_66 : decode cX8_first 66 = .ok (.iload_n 2, 1) := by decide +kernel
theorem dX8_first_67 : decode cX8_first 67 = .ok (.ireturn, 1) := by decide +kernel
theorem dX8_isNetGate_0 : decode cX8_isNetGate 0 = .ok (.iload_n 1, 1) := by decide +kernel
theorem dX8_isNetGate_1 : decode cX8_isNetGate 1 = .ok (.i2l, 1) := by decide +kernel
theorem dX8_isNetGate_2 : decode cX8_isNetGate 2 = .ok (.lconst 0, 1) := by decide +kernel
theorem dX8_isNetGate_3 : decode cX8_isNetGate 3 = .ok (.aload_n 0, 1) := by decide +kernel
theorem dX8_isNetGate_4 : decode cX8_isNetGate 4 = .ok (.getfield 202, 3) := by decide +kernel
theorem dX8_isNetGate_7 : decode cX8_isNetGate 7 = .ok (.iconst 1, 1) := by decide +kernel
theorem dX8_isNetGate_8 : decode cX8_isNetGate 8 = .ok (.isub, 1) := by decide +kernel
theorem dX8_isNetGate_9 : decode cX8_isNetGate 9 = .ok (.i2l, 1) := by decide +kernel
theorem dX8_isNetGate_10 : decode cX8_isNetGate 10 = .ok (.invokestatic 76, 3) := by decide +kernel
theorem dX8_isNetGate_13 : decode cX8_isNetGate 13 = .ok (.ireturn, 1) := by decide +kernel
theorem dX8_net_0 : decode cX8_net 0 = .ok (.iload_n 1, 1) := by decide +kernel
theorem dX8_net_1 : decode cX8_net 1 = .ok (.i2l, 1) := by decide +kernel
theorem dX8_net_2 : decode cX8_net 2 = .ok (.lconst 1, 1) := by decide +kernel
theorem dX8_net_3 : decode cX8_net 3 = .ok (.ldc2_w 187, 3) := by decide +kernel
theorem dX8_net_6 : decode cX8_net 6 = .ok (.invokestatic 76, 3) := by decide +kernel
theorem dX8_net_9 : decode cX8_net 9 = .ok (.ifCond .ne 6, 3) := by decide +kernel
theorem dX8_net_12 : decode cX8_net 12 = .ok (.bipush (-2), 2) := by decide +kernel
theorem dX8_net_14 : decode cX8_net 14 = .ok (.ireturn, 1) := by decide +kernel
theorem dX8_net_15 : decode cX8_net 15 = .ok (.aload_n 0, 1) := by decide +kernel
theorem dX8_net_16 : decode cX8_net 16 = .ok (.getfield 202, 3) := by decide +kernel
theorem dX8_net_19 : decode cX8_net 19 = .ok (.istore_n 2, 1) := by decide +kernel
theorem dX8_net_20 : decode cX8_net 20 = .ok (.aload_n 0, 1) := by decide +kernel
theorem dX8_net_21 : decode cX8_net 21 = .ok (.iload_n 1, 1) := by decide +kernel
