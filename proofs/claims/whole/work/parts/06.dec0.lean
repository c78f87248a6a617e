theorem dX0_init_0 : decode cX0_init 0 = .ok (.aload_n 0, 1) := by decide +kernel
theorem dX0_init_1 : decode cX0_init 1 = .ok (.invokespecial 3, 3) := by decide +kernel
theorem dX0_init_4 : decode cX0_init 4 = .ok (.aload_n 0, 1) := by decide +kernel
theorem dX0_init_5 : decode cX0_init 5 = .ok (.new 9, 3) := by decide +kernel
theorem dX0_init_8 : decode cX0_init 8 = .ok (.dup, 1) := by decide +kernel
theorem dX0_init_9 : decode cX0_init 9 = .ok (.invokespecial 11, 3) := by decide +kernel
theorem dX0_init_12 : decode cX0_init 12 = .ok (.putfield 12, 3) := by decide +kernel
theorem dX0_init_15 : decode cX0_init 15 = .ok (.aload_n 0, 1) := by decide +kernel
theorem dX0_init_16 : decode cX0_init 16 = .ok (.new 18, 3) := by decide +kernel
theorem dX0_init_19 : decode cX0_init 19 = .ok (.dup, 1) := by decide +kernel
theorem dX0_init_20 : decode cX0_init 20 = .ok (.invokespecial 20, 3) := by decide +kernel
theorem dX0_init_23 : decode cX0_init 23 = .ok (.putfield 21, 3) := by decide +kernel
theorem dX0_init_26 : decode cX0_init 26 = .ok (.aload_n 0, 1) := by decide +kernel
theorem dX0_init_27 : decode cX0_init 27 = .ok (.bipush 96, 2) := by decide +kernel
theorem dX0_init_29 : decode cX0_init 29 = .ok (.newarray .long, 2) := by decide +kernel
theorem dX0_init_31 : decode cX0_init 31 = .ok (.putfield 25, 3) := by decide +kernel
theorem dX0_init_34 : decode cX0_init 34 = .ok (.aload_n 0, 1) := by decide +kernel
theorem dX0_init_35 : decode cX0_init 35 = .ok (.bipush 96, 2) := by decide +kernel
theorem dX0_init_37 : decode cX0_init 37 = .ok (.newarray .long, 2) := by decide +kernel
theorem dX0_init_39 : decode cX0_init 39 = .ok (.putfield 29, 3) := by decide +kernel
theorem dX0_init_42 : decode cX0_init 42 = .ok (.return_, 1) := by decide +kernel
theorem dX0_leastFirst_0 : decode cX0_leastFirst 0 = .ok (.iconst 0, 1) := by decide +kernel
theorem dX0_leastFirst_1 : decode cX0_leastFirst 1 = .ok (.istore 4, 2) := by decide +kernel
theorem dX0_leastFirst_3 : decode cX0_leastFirst 3 = .ok (.iload 4, 2) := by decide +kernel
theorem dX0_leastFirst_5 : decode cX0_leastFirst 5 = .ok (.bipush 96, 2) := by decide +kernel
theorem dX0_leastFirst_7 : decode cX0_leastFirst 7 = .ok (.if_icmp .ge 24, 3) := by decide +kernel
theorem dX0_leastFirst_10 : decode cX0_leastFirst 10 = .ok (.aload_n 0, 1) := by decide +kernel
theorem dX0_leastFirst_11 : decode cX0_leastFirst 11 = .ok (.iload_n 1, 1) := by decide +kernel
theorem dX0_leastFirst_12 : decode cX0_leastFirst 12 = .ok (.iload 4, 2) := by decide +kernel
theorem dX0_leastFirst_14 : decode cX0_leastFirst 14 = .ok (.invokevirtual 32, 3) := by decide +kernel
theorem dX0_leastFirst_17 : decode cX0_leastFirst 17 = .ok (.aload_n 0, 1) := by decide +kernel
theorem dX0_leastFirst_18 : decode cX0_leastFirst 18 = .ok (.iload_n 1, 1) := by decide +kernel
theorem dX0_leastFirst_19 : decode cX0_leastFirst 19 = .ok (.lload_n 2, 1) := by decide +kernel
theorem dX0_leastFirst_20 : decode cX0_leastFirst 20 = .ok (.iload 4, 2) := by decide +kernel
theorem dX0_leastFirst_22 : decode cX0_leastFirst 22 = .ok (.invokevirtual 36, 3) := by decide +kernel
theorem dX0_leastFirst_25 : decode cX0_leastFirst 25 = .ok (.iinc 4 1, 3) := by decide +kernel
theorem dX0_leastFirst_28 : decode cX0_leastFirst 28 = .ok (.goto (-25), 3) := by decide +kernel
theorem dX0_leastFirst_31 : decode cX0_leastFirst 31 = .ok (.iconst 0, 1) := by decide +kernel
theorem dX0_leastFirst_32 : decode cX0_leastFirst 32 = .ok (.istore 4, 2) := by decide +kernel
theorem dX0_leastFirst_34 : decode cX0_leastFirst 34 = .ok (.iload 4, 2) := by decide +kernel
theorem dX0_leastFirst_36 : decode cX0_leastFirst 36 = .ok (.i2l, 1) := by decide +kernel
theorem dX0_leastFirst_37 : decode cX0_leastFirst 37 = .ok (.iload_n 1, 1) := by decide +kernel
theorem dX0_leastFirst_38 : decode cX0_leastFirst 38 = .ok (.invokestatic 40, 3) := by decide +kernel
theorem dX0_leastFirst_41 : decode cX0_leastFirst 41 = .ok (.lcmp, 1) := by decide +kernel
theorem dX0_leastFirst_42 : decode cX0_leastFirst 42 = .ok (.ifCond .gt 36, 3) := by decide +kernel
theorem dX0_leastFirst_45 : decode cX0_leastFirst 45 = .ok (.aload_n 0, 1) := by decide +kernel
theorem dX0_leastFirst_46 : decode cX0_leastFirst 46 = .ok (.iload 4, 2) := by decide +kernel
theorem dX0_leastFirst_48 : decode cX0_leastFirst 48 = .ok (.i2l, 1) := by decide +kernel
theorem dX0_leastFirst_49 : decode cX0_leastFirst 49 = .ok (.invokevirtual 46, 3) := by decide +kernel
theorem dX0_leastFirst_52 : decode cX0_leastFirst 52 = .ok (.ifCond .eq 20, 3) := by decide +kernel
theorem dX0_leastFirst_55 : decode cX0_leastFirst 55 = .ok (.aload_n 0, 1) := by decide +kernel
theorem dX0_leastFirst_56 : decode cX0_leastFirst 56 = .ok (.getfield 12, 3) := by decide +kernel
theorem dX0_leastFirst_59 : decode cX0_leastFirst 59 = .ok (.iload_n 1, 1) := by decide +kernel
theorem dX0_leastFirst_60 : decode cX0_leastFirst 60 = .ok (.iload 4, 2) := by decide +kernel
theorem dX0_leastFirst_62 : decode cX0_leastFirst 62 = .ok (.i2l, 1) := by decide +kernel
theorem dX0_leastFirst_63 : decode cX0_leastFirst 63 = .ok (.invokevirtual 50, 3) := by decide +kernel
theorem dX0_leastFirst_66 : decode cX0_leastFirst 66 = .ok (.ifCond .ne 6, 3) := by decide +kernel
theorem dX0_leastFirst_69 : decode cX0_leastFirst 69 = .ok (.iload 4, 2) := by decide +kernel
theorem dX0_leastFirst_71 : decode cX0_leastFirst 71 = .ok (.ireturn, 1) := by decide +kernel
theorem dX0_leastFirst_72 : decode cX0_leastFirst 72 = .ok (.iinc 4 1, 3) := by decide +kernel
theorem dX0_leastFirst_75 : decode cX0_leastFirst 75 = .ok (.goto (-41), 3) := by decide +kernel
theorem dX0_leastFirst_78 : decode cX0_leastFirst 78 = .ok (.ldc 54, 2) := by decide +kernel
theorem dX0_leastFirst_80 : decode cX0_leastFirst 80 = .ok (.ireturn, 1) := by decide +kernel
theorem dX0_weighRows_0 : decode cX0_weighRows 0 = .ok (.iload_n 2, 1) := by decide +kernel
theorem dX0_weighRows_1 : decode cX0_weighRows 1 = .ok (.bipush 8, 2) := by decide +kernel
theorem dX0_weighRows_3 : decode cX0_weighRows 3 = .ok (.idiv, 1) := by decide +kernel
theorem dX0_weighRows_4 : decode cX0_weighRows 4 = .ok (.iconst 3, 1) := by decide +kernel
theorem dX0_weighRows_5 : decode cX0_weighRows 5 = .ok (.imul, 1) := by decide +kernel
theorem dX0_weighRows_6 : decode cX0_weighRows 6 = .ok (.istore_n 3, 1) := by decide +kernel
theorem dX0_weighRows_7 : decode cX0_weighRows 7 = .ok (.iconst 0, 1) := by decide +kernel
theorem dX0_weighRows_8 : decode cX0_weighRows 8 = .ok (.istore 4, 2) := by decide +kernel
theorem dX0_weighRows_10 : decode cX0_weighRows 10 = .ok (.iload 4, 2) := by decide +kernel
theorem dX0_weighRows_12 : decode cX0_weighRows 12 = .ok (.iload_n 1, 1) := by decide +kernel
theorem dX0_weighRows_13 : decode cX0_weighRows 13 = .ok (.if_icmp .ge 48, 3) := by decide +kernel
theorem dX0_weighRows_16 : decode cX0_weighRows 16 = .ok (.getstatic 55, 3) := by decide +kernel
theorem dX0_weighRows_19 : decode cX0_weighRows 19 = .ok (.iload_n 3, 1) := by decide +kernel
theorem dX0_weighRows_20 : decode cX0_weighRows 20 = .ok (.iload 4, 2) := by decide +kernel
theorem dX0_weighRows_22 : decode cX0_weighRows 22 = .ok (.iadd, 1) := by decide +kernel
theorem dX0_weighRows_23 : decode cX0_weighRows 23 = .ok (.iaload, 1) := by decide +kernel
theorem dX0_weighRows_24 : decode cX0_weighRows 24 = .ok (.istore 5, 2) := by decide +kernel
theorem dX0_weighRows_26 : decode cX0_weighRows 26 = .ok (.aload_n 0, 1) := by decide +kernel
theorem dX0_weighRows_27 : decode cX0_weighRows 27 = .ok (.getfield 21, 3) := by decide +kernel
theorem dX0_weighRows_30 : decode cX0_weighRows 30 = .ok (.iload 4, 2) := by decide +kernel
theorem dX0_weighRows_32 : decode cX0_weighRows 32 = .ok (.iload_n 2, 1) := by decide +kernel
theorem dX0_weighRows_33 : decode cX0_weighRows 33 = .ok (.bipush 8, 2) := by decide +kernel
theorem dX0_weighRows_35 : decode cX0_weighRows 35 = .ok (.irem, 1) := by decide +kernel
theorem dX0_weighRows_36 : decode cX0_weighRows 36 = .ok (.iload 4, 2) := by decide +kernel
theorem dX0_weighRows_38 : decode cX0_weighRows 38 = .ok (.invokestatic 59, 3) := by decide +kernel
theorem dX0_weighRows_41 : decode cX0_weighRows 41 = .ok (.ifCond .eq 9, 3) := by decide +kernel
theorem dX0_weighRows_44 : decode cX0_weighRows 44 = .ok (.iload 5, 2) := by decide +kernel
theorem dX0_weighRows_46 : decode cX0_weighRows 46 = .ok (.ineg, 1) := by decide +kernel
theorem dX0_weighRows_47 : decode cX0_weighRows 47 = .ok (.goto 5, 3) := by decide +kernel
theorem dX0_weighRows_50 : decode cX0_weighRows 50 = .ok (.iload 5, 2) := by decide +kernel
theorem dX0_weighRows_52 : decode cX0_weighRows 52 = .ok (.invokevirtual 63, 3) := by decide +kernel
theorem dX0_weighRows_55 : decode cX0_weighRows 55 = .ok (.iinc 4 1, 3) := by decide +kernel
theorem dX0_weighRows_58 : decode cX0_weighRows 58 = .ok (.goto (-48), 3) := by decide +kernel
theorem dX0_weighRows_61 : decode cX0_weighRows 61 = .ok (.return_, 1) := by decide +kernel
theorem dX0_findWrongRows_0 : decode cX0_findWrongRows 0 = .ok (.aload_n 0, 1) := by decide +kernel
theorem dX0_findWrongRows_1 : decode cX0_findWrongRows 1 = .ok (.getfield 21, 3) := by decide +kernel
theorem dX0_findWrongRows_4 : decode cX0_findWrongRows 4 = .ok (.iload_n 1, 1) := by decide +kernel
theorem dX0_findWrongRows_5 : decode cX0_findWrongRows 5 = .ok (.lload_n 2, 1) := by decide +kernel
theorem dX0_findWrongRows_6 : decode cX0_findWrongRows 6 = .ok (.invokevirtual 66, 3) := by decide +kernel
theorem dX0_findWrongRows_9 : decode cX0_findWrongRows 9 = .ok (.aload_n 0, 1) := by decide +kernel
theorem dX0_findWrongRows_10 : decode cX0_findWrongRows 10 = .ok (.getfield 25, 3) := by decide +kernel
theorem dX0_findWrongRows_13 : decode cX0_findWrongRows 13 = .ok (.iload 4, 2) := by decide +kernel
theorem dX0_findWrongRows_15 : decode cX0_findWrongRows 15 = .ok (.lconst 0, 1) := by decide +kernel
theorem dX0_findWrongRows_16 : decode cX0_findWrongRows 16 = .ok (.lastore, 1) := by decide +kernel
theorem dX0_findWrongRows_17 : decode cX0_findWrongRows 17 = .ok (.aload_n 0, 1) := by decide +kernel
theorem dX0_findWrongRows_18 : decode cX0_findWrongRows 18 = .ok (.getfield 29, 3) := by decide +kernel
theorem dX0_findWrongRows_21 : decode cX0_findWrongRows 21 = .ok (.iload 4, 2) := by decide +kernel
theorem dX0_findWrongRows_23 : decode cX0_findWrongRows 23 = .ok (.lconst 0, 1) := by decide +kernel
theorem dX0_findWrongRows_24 : decode cX0_findWrongRows 24 = .ok (.lastore, 1) := by decide +kernel
theorem dX0_findWrongRows_25 : decode cX0_findWrongRows 25 = .ok (.iconst 0, 1) := by decide +kernel
theorem dX0_findWrongRows_26 : decode cX0_findWrongRows 26 = .ok (.istore 5, 2) := by decide +kernel
theorem dX0_findWrongRows_28 : decode cX0_findWrongRows 28 = .ok (.iload 5, 2) := by decide +kernel
theorem dX0_findWrongRows_30 : decode cX0_findWrongRows 30 = .ok (.iload_n 1, 1) := by decide +kernel
theorem dX0_findWrongRows_31 : decode cX0_findWrongRows 31 = .ok (.invokestatic 70, 3) := by decide +kernel
theorem dX0_findWrongRows_34 : decode cX0_findWrongRows 34 = .ok (.if_icmp .ge 98, 3) := by decide +kernel
theorem dX0_findWrongRows_37 : decode cX0_findWrongRows 37 = .ok (.lload_n 2, 1) := by decide +kernel
theorem dX0_findWrongRows_38 : decode cX0_findWrongRows 38 = .ok (.iload 5, 2) := by decide +kernel
theorem dX0_findWrongRows_40 : decode cX0_findWrongRows 40 = .ok (.invokestatic 74, 3) := by decide +kernel
theorem dX0_findWrongRows_43 : decode cX0_findWrongRows 43 = .ok (.istore 6, 2) := by decide +kernel
theorem dX0_findWrongRows_45 : decode cX0_findWrongRows 45 = .ok (.iload 6, 2) := by decide +kernel
theorem dX0_findWrongRows_47 : decode cX0_findWrongRows 47 = .ok (.ifCond .eq 40, 3) := by decide +kernel
theorem dX0_findWrongRows_50 : decode cX0_findWrongRows 50 = .ok (.aload_n 0, 1) := by decide +kernel
theorem dX0_findWrongRows_51 : decode cX0_findWrongRows 51 = .ok (.getfield 21, 3) := by decide +kernel
theorem dX0_findWrongRows_54 : decode cX0_findWrongRows 54 = .ok (.getfield 78, 3) := by decide +kernel
theorem dX0_findWrongRows_57 : decode cX0_findWrongRows 57 = .ok (.iload 5, 2) := by decide +kernel
theorem dX0_findWrongRows_59 : decode cX0_findWrongRows 59 = .ok (.iaload, 1) := by decide +kernel
theorem dX0_findWrongRows_60 : decode cX0_findWrongRows 60 = .ok (.aload_n 0, 1) := by decide +kernel
theorem dX0_findWrongRows_61 : decode cX0_findWrongRows 61 = .ok (.getfield 21, 3) := by decide +kernel
theorem dX0_findWrongRows_64 : decode cX0_findWrongRows 64 = .ok (.getfield 81, 3) := by decide +kernel
theorem dX0_findWrongRows_67 : decode cX0_findWrongRows 67 = .ok (.if_icmp .ge 20, 3) := by decide +kernel
theorem dX0_findWrongRows_70 : decode cX0_findWrongRows 70 = .ok (.aload_n 0, 1) := by decide +kernel
theorem dX0_findWrongRows_71 : decode cX0_findWrongRows 71 = .ok (.getfield 29, 3) := by decide +kernel
theorem dX0_findWrongRows_74 : decode cX0_findWrongRows 74 = .ok (.iload 4, 2) := by decide +kernel
theorem dX0_findWrongRows_76 : decode cX0_findWrongRows 76 = .ok (.dup2, 1) := by decide +kernel
theorem dX0_findWrongRows_77 : decode cX0_findWrongRows 77 = .ok (.laload, 1) := by decide +kernel
theorem dX0_findWrongRows_78 : decode cX0_findWrongRows 78 = .ok (.lconst 1, 1) := by decide +kernel
theorem dX0_findWrongRows_79 : decode cX0_findWrongRows 79 = .ok (.iload 5, 2) := by decide +kernel
theorem dX0_findWrongRows_81 : decode cX0_findWrongRows 81 = .ok (.lshl, 1) := by decide +kernel
theorem dX0_findWrongRows_82 : decode cX0_findWrongRows 82 = .ok (.lor, 1) := by decide +kernel
theorem dX0_findWrongRows_83 : decode cX0_findWrongRows 83 = .ok (.lastore, 1) := by decide +kernel
theorem dX0_findWrongRows_84 : decode cX0_findWrongRows 84 = .ok (.goto 42, 3) := by decide +kernel
theorem dX0_findWrongRows_87 : decode cX0_findWrongRows 87 = .ok (.iload 6, 2) := by decide +kernel
theorem dX0_findWrongRows_89 : decode cX0_findWrongRows 89 = .ok (.ifCond .ne 37, 3) := by decide +kernel
theorem dX0_findWrongRows_92 : decode cX0_findWrongRows 92 = .ok (.aload_n 0, 1) := by decide +kernel
theorem dX0_findWrongRows_93 : decode cX0_findWrongRows 93 = .ok (.getfield 21, 3) := by decide +kernel
theorem dX0_findWrongRows_96 : decode cX0_findWrongRows 96 = .ok (.getfield 78, 3) := by decide +kernel
theorem dX0_findWrongRows_99 : decode cX0_findWrongRows 99 = .ok (.iload 5, 2) := by decide +kernel
theorem dX0_findWrongRows_101 : decode cX0_findWrongRows 101 = .ok (.iaload, 1) := by decide +kernel
theorem dX0_findWrongRows_102 : decode cX0_findWrongRows 102 = .ok (.aload_n 0, 1) := by decide +kernel
theorem dX0_findWrongRows_103 : decode cX0_findWrongRows 103 = .ok (.getfield 21, 3) := by decide +kernel
theorem dX0_findWrongRows_106 : decode cX0_findWrongRows 106 = .ok (.getfield 85, 3) := by decide +kernel
theorem dX0_findWrongRows_109 : decode cX0_findWrongRows 109 = .ok (.if_icmp .le 17, 3) := by decide +kernel
theorem dX0_findWrongRows_112 : decode cX0_findWrongRows 112 = .ok (.aload_n 0, 1) := by decide +kernel
theorem dX0_findWrongRows_113 : decode cX0_findWrongRows 113 = .ok (.getfield 25, 3) := by decide +kernel
theorem dX0_findWrongRows_116 : decode cX0_findWrongRows 116 = .ok (.iload 4, 2) := by decide +kernel
theorem dX0_findWrongRows_118 : decode cX0_findWrongRows 118 = .ok (.dup2, 1) := by decide +kernel
theorem dX0_findWrongRows_119 : decode cX0_findWrongRows 119 = .ok (.laload, 1) := by decide +kernel
theorem dX0_findWrongRows_120 : decode cX0_findWrongRows 120 = .ok (.lconst 1, 1) := by decide +kernel
theorem dX0_findWrongRows_121 : decode cX0_findWrongRows 121 = .ok (.iload 5, 2) := by decide +kernel
theorem dX0_findWrongRows_123 : decode cX0_findWrongRows 123 = .ok (.lshl, 1) := by decide +kernel
theorem dX0_findWrongRows_124 : decode cX0_findWrongRows 124 = .ok (.lor, 1) := by decide +kernel
theorem dX0_findWrongRows_125 : decode cX0_findWrongRows 125 = .ok (.lastore, 1) := by decide +kernel
theorem dX0_findWrongRows_126 : decode cX0_findWrongRows 126 = .ok (.iinc 5 1, 3) := by decide +kernel
theorem dX0_findWrongRows_129 : decode cX0_findWrongRows 129 = .ok (.goto (-101), 3) := by decide +kernel
theorem dX0_findWrongRows_132 : decode cX0_findWrongRows 132 = .ok (.return_, 1) := by decide +kernel
theorem dX0_partsSomeOrder_0 : decode cX0_partsSomeOrder 0 = .ok (.iconst 0, 1) := by decide +kernel
theorem dX0_partsSomeOrder_1 : decode cX0_partsSomeOrder 1 = .ok (.istore_n 3, 1) := by decide +kernel
theorem dX0_partsSomeOrder_2 : decode cX0_partsSomeOrder 2 = .ok (.iload_n 3, 1) := by decide +kernel
theorem dX0_partsSomeOrder_3 : decode cX0_partsSomeOrder 3 = .ok (.bipush 96, 2) := by decide +kernel
theorem dX0_partsSomeOrder_5 : decode cX0_partsSomeOrder 5 = .ok (.if_icmp .ge 52, 3) := by decide +kernel
theorem dX0_partsSomeOrder_8 : decode cX0_partsSomeOrder 8 = .ok (.lload_n 1, 1) := by decide +kernel
theorem dX0_partsSomeOrder_9 : decode cX0_partsSomeOrder 9 = .ok (.aload_n 0, 1) := by decide +kernel
theorem dX0_partsSomeOrder_10 : decode cX0_partsSomeOrder 10 = .ok (.getfield 25, 3) := by decide +kernel
theorem dX0_partsSomeOrder_13 : decode cX0_partsSomeOrder 13 = .ok (.iload_n 3, 1) := by decide +kernel
theorem dX0_partsSomeOrder_14 : decode cX0_partsSomeOrder 14 = .ok (.laload, 1) := by decide +kernel
theorem dX0_partsSomeOrder_15 : decode cX0_partsSomeOrder 15 = .ok (.aload_n 0, 1) := by decide +kernel
theorem dX0_partsSomeOrder_16 : decode cX0_partsSomeOrder 16 = .ok (.getfield 29, 3) := by decide +kernel
theorem dX0_partsSomeOrder_19 : decode cX0_partsSomeOrder 19 = .ok (.iload_n 3, 1) := by decide +kernel
theorem dX0_partsSomeOrder_20 : decode cX0_partsSomeOrder 20 = .ok (.laload, 1) := by decide +kernel
theorem dX0_partsSomeOrder_21 : decode cX0_partsSomeOrder 21 = .ok (.lor, 1) := by decide +kernel
theorem dX0_partsSomeOrder_22 : decode cX0_partsSomeOrder 22 = .ok (.land, 1) := by decide +kernel
theorem dX0_partsSomeOrder_23 : decode cX0_partsSomeOrder 23 = .ok (.lstore 4, 2) := by decide +kernel
theorem dX0_partsSomeOrder_25 : decode cX0_partsSomeOrder 25 = .ok (.lload 4, 2) := by decide +kernel
theorem dX0_partsSomeOrder_27 : decode cX0_partsSomeOrder 27 = .ok (.aload_n 0, 1) := by decide +kernel
theorem dX0_partsSomeOrder_28 : decode cX0_partsSomeOrder 28 = .ok (.getfield 25, 3) := by decide +kernel
theorem dX0_partsSomeOrder_31 : decode cX0_partsSomeOrder 31 = .ok (.iload_n 3, 1) := by decide +kernel
theorem dX0_partsSomeOrder_32 : decode cX0_partsSomeOrder 32 = .ok (.laload, 1) := by decide +kernel
theorem dX0_partsSomeOrder_33 : decode cX0_partsSomeOrder 33 = .ok (.lcmp, 1) := by decide +kernel
theorem dX0_partsSomeOrder_34 : decode cX0_partsSomeOrder 34 = .ok (.ifCond .eq 15, 3) := by decide +kernel
theorem dX0_partsSomeOrder_37 : decode cX0_partsSomeOrder 37 = .ok (.lload 4, 2) := by decide +kernel
theorem dX0_partsSomeOrder_39 : decode cX0_partsSomeOrder 39 = .ok (.aload_n 0, 1) := by decide +kernel
theorem dX0_partsSomeOrder_40 : decode cX0_partsSomeOrder 40 = .ok (.getfield 29, 3) := by decide +kernel
theorem dX0_partsSomeOrder_43 : decode cX0_partsSomeOrder 43 = .ok (.iload_n 3, 1) := by decide +kernel
theorem dX0_partsSomeOrder_44 : decode cX0_partsSomeOrder 44 = .ok (.laload, 1) := by decide +kernel
theorem dX0_partsSomeOrder_45 : decode cX0_partsSomeOrder 45 = .ok (.lcmp, 1) := by decide +kernel
theorem dX0_partsSomeOrder_46 : decode cX0_partsSomeOrder 46 = .ok (.ifCond .ne 5, 3) := by decide +kernel
theorem dX0_partsSomeOrder_49 : decode cX0_partsSomeOrder 49 = .ok (.iconst 1, 1) := by decide +kernel
theorem dX0_partsSomeOrder_50 : decode cX0_partsSomeOrder 50 = .ok (.ireturn, 1) := by decide +kernel
theorem dX0_partsSomeOrder_51 : decode cX0_partsSomeOrder 51 = .ok (.iinc 3 1, 3) := by decide +kernel
theorem dX0_partsSomeOrder_54 : decode cX0_partsSomeOrder 54 = .ok (.goto (-52), 3) := by decide +kernel
theorem dX0_partsSomeOrder_57 : decode cX0_partsSomeOrder 57 = .ok (.iconst 0, 1) := by decide +kernel
theorem dX0_partsSomeOrder_58 : decode cX0_partsSomeOrder 58 = .ok (.ireturn, 1) := by decide +kernel
theorem dX1_init_0 : decode cX1_init 0 = .ok (.aload_n 0, 1) := by decide +kernel
theorem dX1_init_1 : decode cX1_init 1 = .ok (.invokespecial 1, 3) := by decide +kernel
theorem dX1_init_4 : decode cX1_init 4 = .ok (.return_, 1) := by decide +kernel
theorem dX1_find_0 : decode cX1_find 0 = .ok (.aload_n 0, 1) := by decide +kernel
theorem dX1_find_1 : decode cX1_find 1 = .ok (.iload_n 1, 1) := by decide +kernel
theorem dX1_find_2 : decode cX1_find 2 = .ok (.putfield 7, 3) := by decide +kernel
theorem dX1_find_5 : decode cX1_find 5 = .ok (.aload_n 0, 1) := by decide +kernel
theorem dX1_find_6 : decode cX1_find 6 = .ok (.lload_n 2, 1) := by decide +kernel
theorem dX1_find_7 : decode cX1_find 7 = .ok (.putfield 13, 3) := by decide +kernel
theorem dX1_find_10 : decode cX1_find 10 = .ok (.aload_n 0, 1) := by decide +kernel
theorem dX1_find_11 : decode cX1_find 11 = .ok (.iconst 0, 1) := by decide +kernel
theorem dX1_find_12 : decode cX1_find 12 = .ok (.putfield 17, 3) := by decide +kernel
theorem dX1_find_15 : decode cX1_find 15 = .ok (.aload_n 0, 1) := by decide +kernel
theorem dX1_find_16 : decode cX1_find 16 = .ok (.iconst 0, 1) := by decide +kernel
theorem dX1_find_17 : decode cX1_find 17 = .ok (.putfield 20, 3) := by decide +kernel
theorem dX1_find_20 : decode cX1_find 20 = .ok (.aload_n 0, 1) := by decide +kernel
theorem dX1_find_21 : decode cX1_find 21 = .ok (.iconst 0, 1) := by decide +kernel
theorem dX1_find_22 : decode cX1_find 22 = .ok (.lload_n 2, 1) := by decide +kernel
theorem dX1_find_23 : decode cX1_find 23 = .ok (.invokevirtual 23, 3) := by decide +kernel
theorem dX1_find_26 : decode cX1_find 26 = .ok (.return_, 1) := by decide +kernel
theorem dX1_members_0 : decode cX1_members 0 = .ok (.aload_n 0, 1) := by decide +kernel
theorem dX1_members_1 : decode cX1_members 1 = .ok (.getfield 20, 3) := by decide +kernel
theorem dX1_members_4 : decode cX1_members 4 = .ok (.ifCond .le 15, 3) := by decide +kernel
theorem dX1_members_7 : decode cX1_members 7 = .ok (.aload_n 0, 1) := by decide +kernel
theorem dX1_members_8 : decode cX1_members 8 = .ok (.getfield 17, 3) := by decide +kernel
theorem dX1_members_11 : decode cX1_members 11 = .ok (.aload_n 0, 1) := by decide +kernel
theorem dX1_members_12 : decode cX1_members 12 = .ok (.getfield 20, 3) := by decide +kernel
theorem dX1_members_15 : decode cX1_members 15 = .ok (.idiv, 1) := by decide +kernel
theorem dX1_members_16 : decode cX1_members 16 = .ok (.goto 4, 3) := by decide +kernel
theorem dX1_members_19 : decode cX1_members 19 = .ok (.iconst 0, 1) := by decide +kernel
theorem dX1_members_20 : decode cX1_members 20 = .ok (.ireturn, 1) := by decide +kernel
theorem dX1_changePlaces_0 : decode cX1_changePlaces 0 = .ok (.iload_n 1, 1) := by decide +kernel
theorem dX1_changePlaces_1 : decode cX1_changePlaces 1 = .ok (.aload_n 0, 1) := by decide +kernel
theorem dX1_changePlaces_2 : decode cX1_changePlaces 2 = .ok (.getfield 7, 3) := by decide +kernel
theorem dX1_changePlaces_5 : decode cX1_changePlaces 5 = .ok (.if_icmp .lt 9, 3) := by decide +kernel
theorem dX1_changePlaces_8 : decode cX1_changePlaces 8 = .ok (.aload_n 0, 1) := by decide +kernel
theorem dX1_changePlaces_9 : decode cX1_changePlaces 9 = .ok (.lload_n 2, 1) := by decide +kernel
theorem dX1_changePlaces_10 : decode cX1_changePlaces 10 = .ok (.invokevirtual 27, 3) := by decide +kernel
theorem dX1_changePlaces_13 : decode cX1_changePlaces 13 = .ok (.return_, 1) := by decide +kernel
theorem dX1_changePlaces_14 : decode cX1_changePlaces 14 = .ok (.iload_n 1, 1) := by decide +kernel
theorem dX1_changePlaces_15 : decode cX1_changePlaces 15 = .ok (.istore 4, 2) := by decide +kernel
theorem dX1_changePlaces_17 : decode cX1_changePlaces 17 = .ok (.iload 4, 2) := by decide +kernel
theorem dX1_changePlaces_19 : decode cX1_changePlaces 19 = .ok (.aload_n 0, 1) := by decide +kernel
theorem dX1_changePlaces_20 : decode cX1_changePlaces 20 = .ok (.getfield 7, 3) := by decide +kernel
theorem dX1_changePlaces_23 : decode cX1_changePlaces 23 = .ok (.if_icmp .ge 23, 3) := by decide +kernel
theorem dX1_changePlaces_26 : decode cX1_changePlaces 26 = .ok (.aload_n 0, 1) := by decide +kernel
theorem dX1_changePlaces_27 : decode cX1_changePlaces 27 = .ok (.iload_n 1, 1) := by decide +kernel
theorem dX1_changePlaces_28 : decode cX1_changePlaces 28 = .ok (.iconst 1, 1) := by decide +kernel
theorem dX1_changePlaces_29 : decode cX1_changePlaces 29 = .ok (.iadd, 1) := by decide +kernel
theorem dX1_changePlaces_30 : decode cX1_changePlaces 30 = .ok (.lload_n 2, 1) := by decide +kernel
theorem dX1_changePlaces_31 : decode cX1_changePlaces 31 = .ok (.iload_n 1, 1) := by decide +kernel
theorem dX1_changePlaces_32 : decode cX1_changePlaces 32 = .ok (.iload 4, 2) := by decide +kernel
theorem dX1_changePlaces_34 : decode cX1_changePlaces 34 = .ok (.invokestatic 31, 3) := by decide +kernel
theorem dX1_changePlaces_37 : decode cX1_changePlaces 37 = .ok (.invokevirtual 23, 3) := by decide +kernel
theorem dX1_changePlaces_40 : decode cX1_changePlaces 40 = .ok (.iinc 4 1, 3) := by decide +kernel
theorem dX1_changePlaces_43 : decode cX1_changePlaces 43 = .ok (.goto (-26), 3) := by decide +kernel
theorem dX1_changePlaces_46 : decode cX1_changePlaces 46 = .ok (.return_, 1) := by decide +kernel
theorem dX1_turnInputs_0 : decode cX1_turnInputs 0 = .ok (.lload_n 1, 1) := by decide +kernel
theorem dX1_turnInputs_1 : decode cX1_turnInputs 1 = .ok (.lstore_n 3, 1) := by decide +kernel
theorem dX1_turnInputs_2 : decode cX1_turnInputs 2 = .ok (.aload_n 0, 1) := by decide +kernel
theorem dX1_turnInputs_3 : decode cX1_turnInputs 3 = .ok (.lload_n 3, 1) := by decide +kernel
theorem dX1_turnInputs_4 : decode cX1_turnInputs 4 = .ok (.invokevirtual 37, 3) := by decide +kernel
theorem dX1_turnInputs_7 : decode cX1_turnInputs 7 = .ok (.iconst 1, 1) := by decide +kernel
theorem dX1_turnInputs_8 : decode cX1_turnInputs 8 = .ok (.istore 5, 2) := by decide +kernel
theorem dX1_turnInputs_10 : decode cX1_turnInputs 10 = .ok (.iload 5, 2) := by decide +kernel
theorem dX1_turnInputs_12 : decode cX1_turnInputs 12 = .ok (.iconst 1, 1) := by decide +kernel
theorem dX1_turnInputs_13 : decode cX1_turnInputs 13 = .ok (.aload_n 0, 1) := by decide +kernel
theorem dX1_turnInputs_14 : decode cX1_turnInputs 14 = .ok (.getfield 7, 3) := by decide +kernel
theorem dX1_turnInputs_17 : decode cX1_turnInputs 17 = .ok (.ishl, 1) := by decide +kernel
theorem dX1_turnInputs_18 : decode cX1_turnInputs 18 = .ok (.if_icmp .ge 24, 3) := by decide +kernel
theorem dX1_turnInputs_21 : decode cX1_turnInputs 21 = .ok (.lload_n 3, 1) := by decide +kernel
theorem dX1_turnInputs_22 : decode cX1_turnInputs 22 = .ok (.iload 5, 2) := by decide +kernel
theorem dX1_turnInputs_24 : decode cX1_turnInputs 24 = .ok (.invokestatic 40, 3) := by decide +kernel
theorem dX1_turnInputs_27 : decode cX1_turnInputs 27 = .ok (.invokestatic 46, 3) := by decide +kernel
theorem dX1_turnInputs_30 : decode cX1_turnInputs 30 = .ok (.lstore_n 3, 1) := by decide +kernel
theorem dX1_turnInputs_31 : decode cX1_turnInputs 31 = .ok (.aload_n 0, 1) := by decide +kernel
theorem dX1_turnInputs_32 : decode cX1_turnInputs 32 = .ok (.lload_n 3, 1) := by decide +kernel
theorem dX1_turnInputs_33 : decode cX1_turnInputs 33 = .ok (.invokevirtual 37, 3) := by decide +kernel
theorem dX1_turnInputs_36 : decode cX1_turnInputs 36 = .ok (.iinc 5 1, 3) := by decide +kernel
theorem dX1_turnInputs_39 : decode cX1_turnInputs 39 = .ok (.goto (-29), 3) := by decide +kernel
theorem dX1_turnInputs_42 : decode cX1_turnInputs 42 = .ok (.return_, 1) := by decide +kernel
theorem dX1_meet_0 : decode cX1_meet 0 = .ok (.aload_n 0, 1) := by decide +kernel
theorem dX1_meet_1 : decode cX1_meet 1 = .ok (.lload_n 1, 1) := by decide +kernel
theorem dX1_meet_2 : decode cX1_meet 2 = .ok (.invokevirtual 50, 3) := by decide +kernel
theorem dX1_meet_5 : decode cX1_meet 5 = .ok (.aload_n 0, 1) := by decide +kernel
theorem dX1_meet_6 : decode cX1_meet 6 = .ok (.lload_n 1, 1) := by decide +kernel
theorem dX1_meet_7 : decode cX1_meet 7 = .ok (.aload_n 0, 1) := by decide +kernel
theorem dX1_meet_8 : decode cX1_meet 8 = .ok (.getfield 7, 3) := by decide +kernel
theorem dX1_meet_11 : decode cX1_meet 11 = .ok (.invokestatic 53, 3) := by decide +kernel
theorem dX1_meet_14 : decode cX1_meet 14 = .ok (.lxor, 1) := by decide +kernel
theorem dX1_meet_15 : decode cX1_meet 15 = .ok (.invokevirtual 50, 3) := by decide +kernel
theorem dX1_meet_18 : decode cX1_meet 18 = .ok (.return_, 1) := by decide +kernel
theorem dX1_compare_0 : decode cX1_compare 0 = .ok (.aload_n 0, 1) := by decide +kernel
theorem dX1_compare_1 : decode cX1_compare 1 = .ok (.dup, 1) := by decide +kernel
theorem dX1_compare_2 : decode cX1_compare 2 = .ok (.getfield 17, 3) := by decide +kernel
theorem dX1_compare_5 : decode cX1_compare 5 = .ok (.iconst 1, 1) := by decide +kernel
theorem dX1_compare_6 : decode cX1_compare 6 = .ok (.iadd, 1) := by decide +kernel
theorem dX1_compare_7 : decode cX1_compare 7 = .ok (.putfield 17, 3) := by decide +kernel
theorem dX1_compare_10 : decode cX1_compare 10 = .ok (.lload_n 1, 1) := by decide +kernel
theorem dX1_compare_11 : decode cX1_compare 11 = .ok (.aload_n 0, 1) := by decide +kernel
theorem dX1_compare_12 : decode cX1_compare 12 = .ok (.getfield 13, 3) := by decide +kernel
theorem dX1_compare_15 : decode cX1_compare 15 = .ok (.lcmp, 1) := by decide +kernel
theorem dX1_compare_16 : decode cX1_compare 16 = .ok (.ifCond .ge 13, 3) := by decide +kernel
theorem dX1_compare_19 : decode cX1_compare 19 = .ok (.aload_n 0, 1) := by decide +kernel
theorem dX1_compare_20 : decode cX1_compare 20 = .ok (.lload_n 1, 1) := by decide +kernel
theorem dX1_compare_21 : decode cX1_compare 21 = .ok (.putfield 13, 3) := by decide +kernel
theorem dX1_compare_24 : decode cX1_compare 24 = .ok (.aload_n 0, 1) := by decide +kernel
theorem dX1_compare_25 : decode cX1_compare 25 = .ok (.iconst 0, 1) := by decide +kernel
theorem dX1_compare_26 : decode cX1_compare 26 = .ok (.putfield 20, 3) := by decide +kernel
theorem dX1_compare_29 : decode cX1_compare 29 = .ok (.lload_n 1, 1) := by decide +kernel
theorem dX1_compare_30 : decode cX1_compare 30 = .ok (.aload_n 0, 1) := by decide +kernel
theorem dX1_compare_31 : decode cX1_compare 31 = .ok (.getfield 13, 3) := by decide +kernel
theorem dX1_compare_34 : decode cX1_compare 34 = .ok (.lcmp, 1) := by decide +kernel
theorem dX1_compare_35 : decode cX1_compare 35 = .ok (.ifCond .ne 13, 3) := by decide +kernel
theorem dX1_compare_38 : decode cX1_compare 38 = .ok (.aload_n 0, 1) := by decide +kernel
theorem dX1_compare_39 : decode cX1_compare 39 = .ok (.dup, 1) := by decide +kernel
theorem dX1_compare_40 : decode cX1_compare 40 = .ok (.getfield 20, 3) := by decide +kernel
theorem dX1_compare_43 : decode cX1_compare 43 = .ok (.iconst 1, 1) := by decide +kernel
theorem dX1_compare_44 : decode cX1_compare 44 = .ok (.iadd, 1) := by decide +kernel
theorem dX1_compare_45 : decode cX1_compare 45 = .ok (.putfield 20, 3) := by decide +kernel
theorem dX1_compare_48 : decode cX1_compare 48 = .ok (.return_, 1) := by decide +kernel
theorem dX2_init_0 : decode cX2_init 0 = .ok (.aload_n 0, 1) := by decide +kernel
theorem dX2_init_1 : decode cX2_init 1 = .ok (.invokespecial 3, 3) := by decide +kernel
theorem dX2_init_4 : decode cX2_init 4 = .ok (.aload_n 0, 1) := by decide +kernel
theorem dX2_init_5 : decode cX2_init 5 = .ok (.iconst 5, 1) := by decide +kernel
theorem dX2_init_6 : decode cX2_init 6 = .ok (.newarray .int, 2) := by decide +kernel
theorem dX2_init_8 : decode cX2_init 8 = .ok (.putfield 9, 3) := by decide +kernel
theorem dX2_init_11 : decode cX2_init 11 = .ok (.aload_n 0, 1) := by decide +kernel
theorem dX2_init_12 : decode cX2_init 12 = .ok (.iconst 5, 1) := by decide +kernel
theorem dX2_init_13 : decode cX2_init 13 = .ok (.newarray .int, 2) := by decide +kernel
theorem dX2_init_15 : decode cX2_init 15 = .ok (.putfield 15, 3) := by decide +kernel
theorem dX2_init_18 : decode cX2_init 18 = .ok (.aload_n 0, 1) := by decide +kernel
theorem dX2_init_19 : decode cX2_init 19 = .ok (.iconst 5, 1) := by decide +kernel
theorem dX2_init_20 : decode cX2_init 20 = .ok (.newarray .int, 2) := by decide +kernel
theorem dX2_init_22 : decode cX2_init 22 = .ok (.putfield 18, 3) := by decide +kernel
theorem dX2_init_25 : decode cX2_init 25 = .ok (.aload_n 0, 1) := by decide +kernel
theorem dX2_init_26 : decode cX2_init 26 = .ok (.new 21, 3) := by decide +kernel
theorem dX2_init_29 : decode cX2_init 29 = .ok (.dup, 1) := by decide +kernel
theorem dX2_init_30 : decode cX2_init 30 = .ok (.invokespecial 23, 3) := by decide +kernel
theorem dX2_init_33 : decode cX2_init 33 = .ok (.putfield 24, 3) := by decide +kernel
theorem dX2_init_36 : decode cX2_init 36 = .ok (.return_, 1) := by decide +kernel
theorem dX2_find_0 : decode cX2_find 0 = .ok (.aload_n 0, 1) := by decide +kernel
theorem dX2_find_1 : decode cX2_find 1 = .ok (.iload_n 1, 1) := by decide +kernel
theorem dX2_find_2 : decode cX2_find 2 = .ok (.putfield 28, 3) := by decide +kernel
theorem dX2_find_5 : decode cX2_find 5 = .ok (.aload_n 0, 1) := by decide +kernel
theorem dX2_find_6 : decode cX2_find 6 = .ok (.lload_n 2, 1) := by decide +kernel
theorem dX2_find_7 : decode cX2_find 7 = .ok (.putfield 32, 3) := by decide +kernel
theorem dX2_find_10 : decode cX2_find 10 = .ok (.iconst 0, 1) := by decide +kernel
theorem dX2_find_11 : decode cX2_find 11 = .ok (.istore 4, 2) := by decide +kernel
theorem dX2_find_13 : decode cX2_find 13 = .ok (.iload 4, 2) := by decide +kernel
theorem dX2_find_15 : decode cX2_find 15 = .ok (.aload_n 0, 1) := by decide +kernel
theorem dX2_find_16 : decode cX2_find 16 = .ok (.getfield 28, 3) := by decide +kernel
theorem dX2_find_19 : decode cX2_find 19 = .ok (.if_icmp .ge 35, 3) := by decide +kernel
theorem dX2_find_22 : decode cX2_find 22 = .ok (.aload_n 0, 1) := by decide +kernel
theorem dX2_find_23 : decode cX2_find 23 = .ok (.getfield 15, 3) := by decide +kernel
theorem dX2_find_26 : decode cX2_find 26 = .ok (.iload 4, 2) := by decide +kernel
theorem dX2_find_28 : decode cX2_find 28 = .ok (.iconst 2, 1) := by decide +kernel
theorem dX2_find_29 : decode cX2_find 29 = .ok (.aload_n 0, 1) := by decide +kernel
theorem dX2_find_30 : decode cX2_find 30 = .ok (.getfield 32, 3) := by decide +kernel
theorem dX2_find_33 : decode cX2_find 33 = .ok (.iload 4, 2) := by decide +kernel
theorem dX2_find_35 : decode cX2_find 35 = .ok (.invokestatic 36, 3) := by decide +kernel
theorem dX2_find_38 : decode cX2_find 38 = .ok (.imul, 1) := by decide +kernel
theorem dX2_find_39 : decode cX2_find 39 = .ok (.aload_n 0, 1) := by decide +kernel
theorem dX2_find_40 : decode cX2_find 40 = .ok (.getfield 32, 3) := by decide +kernel
theorem dX2_find_43 : decode cX2_find 43 = .ok (.invokestatic 42, 3) := by decide +kernel
theorem dX2_find_46 : decode cX2_find 46 = .ok (.isub, 1) := by decide +kernel
theorem dX2_find_47 : decode cX2_find 47 = .ok (.iastore, 1) := by decide +kernel
theorem dX2_find_48 : decode cX2_find 48 = .ok (.iinc 4 1, 3) := by decide +kernel
theorem dX2_find_51 : decode cX2_find 51 = .ok (.goto (-38), 3) := by decide +kernel
theorem dX2_find_54 : decode cX2_find 54 = .ok (.aload_n 0, 1) := by decide +kernel
theorem dX2_find_55 : decode cX2_find 55 = .ok (.invokevirtual 48, 3) := by decide +kernel
theorem dX2_find_58 : decode cX2_find 58 = .ok (.istore 4, 2) := by decide +kernel
theorem dX2_find_60 : decode cX2_find 60 = .ok (.iconst 0, 1) := by decide +kernel
theorem dX2_find_61 : decode cX2_find 61 = .ok (.istore 5, 2) := by decide +kernel
theorem dX2_find_63 : decode cX2_find 63 = .ok (.iload 4, 2) := by decide +kernel
theorem dX2_find_65 : decode cX2_find 65 = .ok (.iload 5, 2) := by decide +kernel
theorem dX2_find_67 : decode cX2_find 67 = .ok (.iadd, 1) := by decide +kernel
theorem dX2_find_68 : decode cX2_find 68 = .ok (.bipush 16, 2) := by decide +kernel
theorem dX2_find_70 : decode cX2_find 70 = .ok (.if_icmp .gt 30, 3) := by decide +kernel
theorem dX2_find_73 : decode cX2_find 73 = .ok (.aload_n 0, 1) := by decide +kernel
theorem dX2_find_74 : decode cX2_find 74 = .ok (.iconst 0, 1) := by decide +kernel
theorem dX2_find_75 : decode cX2_find 75 = .ok (.iload 5, 2) := by decide +kernel
theorem dX2_find_77 : decode cX2_find 77 = .ok (.invokevirtual 52, 3) := by decide +kernel
theorem dX2_find_80 : decode cX2_find 80 = .ok (.ifCond .eq 14, 3) := by decide +kernel
theorem dX2_find_83 : decode cX2_find 83 = .ok (.aload_n 0, 1) := by decide +kernel
theorem dX2_find_84 : decode cX2_find 84 = .ok (.iload 4, 2) := by decide +kernel
theorem dX2_find_86 : decode cX2_find 86 = .ok (.iload 5, 2) := by decide +kernel
theorem dX2_find_88 : decode cX2_find 88 = .ok (.iadd, 1) := by decide +kernel
theorem dX2_find_89 : decode cX2_find 89 = .ok (.putfield 56, 3) := by decide +kernel
theorem dX2_find_92 : decode cX2_find 92 = .ok (.iconst 1, 1) := by decide +kernel
theorem dX2_find_93 : decode cX2_find 93 = .ok (.ireturn, 1) := by decide +kernel
theorem dX2_find_94 : decode cX2_find 94 = .ok (.iinc 5 1, 3) := by decide +kernel
theorem dX2_find_97 : decode cX2_find 97 = .ok (.goto (-34), 3) := by decide +kernel
theorem dX2_find_100 : decode cX2_find 100 = .ok (.iconst 0, 1) := by decide +kernel
theorem dX2_find_101 : decode cX2_find 101 = .ok (.ireturn, 1) := by decide +kernel
theorem dX2_findFloors_0 : decode cX2_findFloors 0 = .ok (.iconst 0, 1) := by decide +kernel
theorem dX2_findFloors_1 : decode cX2_findFloors 1 = .ok (.istore_n 1, 1) := by decide +kernel
theorem dX2_findFloors_2 : decode cX2_findFloors 2 = .ok (.iload_n 1, 1) := by decide +kernel
theorem dX2_findFloors_3 : decode cX2_findFloors 3 = .ok (.aload_n 0, 1) := by decide +kernel
theorem dX2_findFloors_4 : decode cX2_findFloors 4 = .ok (.getfield 28, 3) := by decide +kernel
theorem dX2_findFloors_7 : decode cX2_findFloors 7 = .ok (.if_icmp .ge 29, 3) := by decide +kernel
theorem dX2_findFloors_10 : decode cX2_findFloors 10 = .ok (.aload_n 0, 1) := by decide +kernel
theorem dX2_findFloors_11 : decode cX2_findFloors 11 = .ok (.getfield 18, 3) := by decide +kernel
theorem dX2_findFloors_14 : decode cX2_findFloors 14 = .ok (.iload_n 1, 1) := by decide +kernel
theorem dX2_findFloors_15 : decode cX2_findFloors 15 = .ok (.aload_n 0, 1) := by decide +kernel
theorem dX2_findFloors_16 : decode cX2_findFloors 16 = .ok (.getfield 15, 3) := by decide +kernel
theorem dX2_findFloors_19 : decode cX2_findFloors 19 = .ok (.iload_n 1, 1) := by decide +kernel
theorem dX2_findFloors_20 : decode cX2_findFloors 20 = .ok (.iaload, 1) := by decide +kernel
theorem dX2_findFloors_21 : decode cX2_findFloors 21 = .ok (.ifCond .ne 7, 3) := by decide +kernel
theorem dX2_findFloors_24 : decode cX2_findFloors 24 = .ok (.iconst 0, 1) := by decide +kernel
theorem dX2_findFloors_25 : decode cX2_findFloors 25 = .ok (.goto 4, 3) := by decide +kernel
theorem dX2_findFloors_28 : decode cX2_findFloors 28 = .ok (.iconst 1, 1) := by decide +kernel
theorem dX2_findFloors_29 : decode cX2_findFloors 29 = .ok (.iastore, 1) := by decide +kernel
theorem dX2_findFloors_30 : decode cX2_findFloors 30 = .ok (.iinc 1 1, 3) := by decide +kernel
theorem dX2_findFloors_33 : decode cX2_findFloors 33 = .ok (.goto (-31), 3) := by decide +kernel
theorem dX2_findFloors_36 : decode cX2_findFloors 36 = .ok (.iconst 0, 1) := by decide +kernel
theorem dX2_findFloors_37 : decode cX2_findFloors 37 = .ok (.istore_n 1, 1) := by decide +kernel
theorem dX2_findFloors_38 : decode cX2_findFloors 38 = .ok (.iconst 0, 1) := by decide +kernel
theorem dX2_findFloors_39 : decode cX2_findFloors 39 = .ok (.istore_n 2, 1) := by decide +kernel
theorem dX2_findFloors_40 : decode cX2_findFloors 40 = .ok (.iload_n 2, 1) := by decide +kernel
theorem dX2_findFloors_41 : decode cX2_findFloors 41 = .ok (.aload_n 0, 1) := by decide +kernel
theorem dX2_findFloors_42 : decode cX2_findFloors 42 = .ok (.getfield 28, 3) := by decide +kernel
theorem dX2_findFloors_45 : decode cX2_findFloors 45 = .ok (.if_icmp .ge 41, 3) := by decide +kernel
theorem dX2_findFloors_48 : decode cX2_findFloors 48 = .ok (.iconst 0, 1) := by decide +kernel
theorem dX2_findFloors_49 : decode cX2_findFloors 49 = .ok (.istore_n 1, 1) := by decide +kernel
theorem dX2_findFloors_50 : decode cX2_findFloors 50 = .ok (.iconst 0, 1) := by decide +kernel
theorem dX2_findFloors_51 : decode cX2_findFloors 51 = .ok (.istore_n 3, 1) := by decide +kernel
theorem dX2_findFloors_52 : decode cX2_findFloors 52 = .ok (.iload_n 3, 1) := by decide +kernel
theorem dX2_findFloors_53 : decode cX2_findFloors 53 = .ok (.aload_n 0, 1) := by decide +kernel
theorem dX2_findFloors_54 : decode cX2_findFloors 54 = .ok (.getfield 28, 3) := by decide +kernel
theorem dX2_findFloors_57 : decode cX2_findFloors 57 = .ok (.if_icmp .ge 23, 3) := by decide +kernel
theorem dX2_findFloors_60 : decode cX2_findFloors 60 = .ok (.aload_n 0, 1) := by decide +kernel
theorem dX2_findFloors_61 : decode cX2_findFloors 61 = .ok (.iload_n 3, 1) := by decide +kernel
theorem dX2_findFloors_62 : decode cX2_findFloors 62 = .ok (.invokevirtual 59, 3) := by decide +kernel
theorem dX2_findFloors_65 : decode cX2_findFloors 65 = .ok (.iload_n 1, 1) := by decide +kernel
theorem dX2_findFloors_66 : decode cX2_findFloors 66 = .ok (.aload_n 0, 1) := by decide +kernel
theorem dX2_findFloors_67 : decode cX2_findFloors 67 = .ok (.getfield 18, 3) := by decide +kernel
theorem dX2_findFloors_70 : decode cX2_findFloors 70 = .ok (.iload_n 3, 1) := by decide +kernel
theorem dX2_findFloors_71 : decode cX2_findFloors 71 = .ok (.iaload, 1) := by decide +kernel
theorem dX2_findFloors_72 : decode cX2_findFloors 72 = .ok (.iadd, 1) := by decide +kernel
theorem dX2_findFloors_73 : decode cX2_findFloors 73 = .ok (.istore_n 1, 1) := by decide +kernel
theorem dX2_findFloors_74 : decode cX2_findFloors 74 = .ok (.iinc 3 1, 3) := by decide +kernel
theorem dX2_findFloors_77 : decode cX2_findFloors 77 = .ok (.goto (-25), 3) := by decide +kernel
theorem dX2_findFloors_80 : decode cX2_findFloors 80 = .ok (.iinc 2 1, 3) := by decide +kernel
theorem dX2_findFloors_83 : decode cX2_findFloors 83 = .ok (.goto (-43), 3) := by decide +kernel
theorem dX2_findFloors_86 : decode cX2_findFloors 86 = .ok (.iload_n 1, 1) := by decide +kernel
theorem dX2_findFloors_87 : decode cX2_findFloors 87 = .ok (.ireturn, 1) := by decide +kernel
theorem dX2_raiseFloor_0 : decode cX2_raiseFloor 0 = .ok (.iconst 0, 1) := by decide +kernel
theorem dX2_raiseFloor_1 : decode cX2_raiseFloor 1 = .ok (.istore_n 2, 1) := by decide +kernel
theorem dX2_raiseFloor_2 : decode cX2_raiseFloor 2 = .ok (.iload_n 2, 1) := by decide +kernel
theorem dX2_raiseFloor_3 : decode cX2_raiseFloor 3 = .ok (.aload_n 0, 1) := by decide +kernel
theorem dX2_raiseFloor_4 : decode cX2_raiseFloor 4 = .ok (.getfield 28, 3) := by decide +kernel
theorem dX2_raiseFloor_7 : decode cX2_raiseFloor 7 = .ok (.if_icmp .ge 53, 3) := by decide +kernel
theorem dX2_raiseFloor_10 : decode cX2_raiseFloor 10 = .ok (.aload_n 0, 1) := by decide +kernel
theorem dX2_raiseFloor_11 : decode cX2_raiseFloor 11 = .ok (.getfield 15, 3) := by decide +kernel
theorem dX2_raiseFloor_14 : decode cX2_raiseFloor 14 = .ok (.iload_n 2, 1) := by decide +kernel
theorem dX2_raiseFloor_15 : decode cX2_raiseFloor 15 = .ok (.iaload, 1) := by decide +kernel
theorem dX2_raiseFloor_16 : decode cX2_raiseFloor 16 = .ok (.invokestatic 63, 3) := by decide +kernel
theorem dX2_raiseFloor_19 : decode cX2_raiseFloor 19 = .ok (.aload_n 0, 1) := by decide +kernel
theorem dX2_raiseFloor_20 : decode cX2_raiseFloor 20 = .ok (.getfield 15, 3) := by decide +kernel
theorem dX2_raiseFloor_23 : decode cX2_raiseFloor 23 = .ok (.iload_n 1, 1) := by decide +kernel
theorem dX2_raiseFloor_24 : decode cX2_raiseFloor 24 = .ok (.iaload, 1) := by decide +kernel
theorem dX2_raiseFloor_25 : decode cX2_raiseFloor 25 = .ok (.invokestatic 63, 3) := by decide +kernel
theorem dX2_raiseFloor_28 : decode cX2_raiseFloor 28 = .ok (.if_icmp .ge 26, 3) := by decide +kernel
theorem dX2_raiseFloor_31 : decode cX2_raiseFloor 31 = .ok (.aload_n 0, 1) := by decide +kernel
theorem dX2_raiseFloor_32 : decode cX2_raiseFloor 32 = .ok (.getfield 18, 3) := by decide +kernel
theorem dX2_raiseFloor_35 : decode cX2_raiseFloor 35 = .ok (.iload_n 1, 1) := by decide +kernel
theorem dX2_raiseFloor_36 : decode cX2_raiseFloor 36 = .ok (.aload_n 0, 1) := by decide +kernel
theorem dX2_raiseFloor_37 : decode cX2_raiseFloor 37 = .ok (.getfield 18, 3) := by decide +kernel
theorem dX2_raiseFloor_40 : decode cX2_raiseFloor 40 = .ok (.iload_n 1, 1) := by decide +kernel
theorem dX2_raiseFloor_41 : decode cX2_raiseFloor 41 = .ok (.iaload, 1) := by decide +kernel
theorem dX2_raiseFloor_42 : decode cX2_raiseFloor 42 = .ok (.aload_n 0, 1) := by decide +kernel
theorem dX2_raiseFloor_43 : decode cX2_raiseFloor 43 = .ok (.getfield 18, 3) := by decide +kernel
theorem dX2_raiseFloor_46 : decode cX2_raiseFloor 46 = .ok (.iload_n 2, 1) := by decide +kernel
theorem dX2_raiseFloor_47 : decode cX2_raiseFloor 47 = .ok (.iaload, 1) := by decide +kernel
theorem dX2_raiseFloor_48 : decode cX2_raiseFloor 48 = .ok (.iconst 1, 1) := by decide +kernel
theorem dX2_raiseFloor_49 : decode cX2_raiseFloor 49 = .ok (.iadd, 1) := by decide +kernel
theorem dX2_raiseFloor_50 : decode cX2_raiseFloor 50 = .ok (.invokestatic 69, 3) := by decide +kernel
theorem dX2_raiseFloor_53 : decode cX2_raiseFloor 53 = .ok (.iastore, 1) := by decide +kernel
theorem dX2_raiseFloor_54 : decode cX2_raiseFloor 54 = .ok (.iinc 2 1, 3) := by decide +kernel
theorem dX2_raiseFloor_57 : decode cX2_raiseFloor 57 = .ok (.goto (-55), 3) := by decide +kernel
theorem dX2_raiseFloor_60 : decode cX2_raiseFloor 60 = .ok (.return_, 1) := by decide +kernel
theorem dX2_share_0 : decode cX2_share 0 = .ok (.iload_n 1, 1) := by decide +kernel
theorem dX2_share_1 : decode cX2_share 1 = .ok (.aload_n 0, 1) := by decide +kernel
theorem dX2_share_2 : decode cX2_share 2 = .ok (.getfield 28, 3) := by decide +kernel
theorem dX2_share_5 : decode cX2_share 5 = .ok (.if_icmp .lt 20, 3) := by decide +kernel
theorem dX2_share_8 : decode cX2_share 8 = .ok (.iload_n 2, 1) := by decide +kernel
theorem dX2_share_9 : decode cX2_share 9 = .ok (.ifCond .ne 14, 3) := by decide +kernel
theorem dX2_share_12 : decode cX2_share 12 = .ok (.aload_n 0, 1) := by decide +kernel
theorem dX2_share_13 : decode cX2_share 13 = .ok (.invokevirtual 73, 3) := by decide +kernel
theorem dX2_share_16 : decode cX2_share 16 = .ok (.ifCond .eq 7, 3) := by decide +kernel
theorem dX2_share_19 : decode cX2_share 19 = .ok (.iconst 1, 1) := by decide +kernel
theorem dX2_share_20 : decode cX2_share 20 = .ok (.goto 4, 3) := by decide +kernel
theorem dX2_share_23 : decode cX2_share 23 = .ok (.iconst 0, 1) := by decide +kernel
theorem dX2_share_24 : decode cX2_share 24 = .ok (.ireturn, 1) := by decide +kernel
theorem dX2_share_25 : decode cX2_share 25 = .ok (.iload_n 1, 1) := by decide +kernel
theorem dX2_share_26 : decode cX2_share 26 = .ok (.aload_n 0, 1) := by decide +kernel
theorem dX2_share_27 : decode cX2_share 27 = .ok (.getfield 28, 3) := by decide +kernel
theorem dX2_share_30 : decode cX2_share 30 = .ok (.iconst 1, 1) := by decide +kernel
theorem dX2_share_31 : decode cX2_share 31 = .ok (.isub, 1) := by decide +kernel
theorem dX2_share_32 : decode cX2_share 32 = .ok (.if_icmp .ne 7, 3) := by decide +kernel
theorem dX2_share_35 : decode cX2_share 35 = .ok (.iload_n 2, 1) := by decide +kernel
theorem dX2_share_36 : decode cX2_share 36 = .ok (.goto 4, 3) := by decide +kernel
theorem dX2_share_39 : decode cX2_share 39 = .ok (.iconst 0, 1) := by decide +kernel
theorem dX2_share_40 : decode cX2_share 40 = .ok (.istore_n 3, 1) := by decide +kernel
theorem dX2_share_41 : decode cX2_share 41 = .ok (.aload_n 0, 1) := by decide +kernel
theorem dX2_share_42 : decode cX2_share 42 = .ok (.getfield 15, 3) := by decide +kernel
theorem dX2_share_45 : decode cX2_share 45 = .ok (.iload_n 1, 1) := by decide +kernel
theorem dX2_share_46 : decode cX2_share 46 = .ok (.iaload, 1) := by decide +kernel
theorem dX2_share_47 : decode cX2_share 47 = .ok (.ifCond .ne 7, 3) := by decide +kernel
theorem dX2_share_50 : decode cX2_share 50 = .ok (.iconst 0, 1) := by decide +kernel
theorem dX2_share_51 : decode cX2_share 51 = .ok (.goto 4, 3) := by decide +kernel
theorem dX2_share_54 : decode cX2_share 54 = .ok (.iload_n 2, 1) := by decide +kernel
theorem dX2_share_55 : decode cX2_share 55 = .ok (.istore 4, 2) := by decide +kernel
theorem dX2_share_57 : decode cX2_share 57 = .ok (.iload_n 3, 1) := by decide +kernel
theorem dX2_share_58 : decode cX2_share 58 = .ok (.istore 5, 2) := by decide +kernel
theorem dX2_share_60 : decode cX2_share 60 = .ok (.iload 5, 2) := by decide +kernel
theorem dX2_share_62 : decode cX2_share 62 = .ok (.iload 4, 2) := by decide +kernel
theorem dX2_share_64 : decode cX2_share 64 = .ok (.if_icmp .gt 83, 3) := by decide +kernel
theorem dX2_share_67 : decode cX2_share 67 = .ok (.aload_n 0, 1) := by decide +kernel
theorem dX2_share_68 : decode cX2_share 68 = .ok (.getfield 18, 3) := by decide +kernel
theorem dX2_share_71 : decode cX2_share 71 = .ok (.iload_n 1, 1) := by decide +kernel
theorem dX2_share_72 : decode cX2_share 72 = .ok (.iaload, 1) := by decide +kernel
theorem dX2_share_73 : decode cX2_share 73 = .ok (.iload 5, 2) := by decide +kernel
theorem dX2_share_75 : decode cX2_share 75 = .ok (.iadd, 1) := by decide +kernel
theorem dX2_share_76 : decode cX2_share 76 = .ok (.istore 6, 2) := by decide +kernel
theorem dX2_share_78 : decode cX2_share 78 = .ok (.aload_n 0, 1) := by decide +kernel
theorem dX2_share_79 : decode cX2_share 79 = .ok (.iload_n 1, 1) := by decide +kernel
theorem dX2_share_80 : decode cX2_share 80 = .ok (.iload 6, 2) := by decide +kernel
theorem dX2_share_82 : decode cX2_share 82 = .ok (.invokevirtual 77, 3) := by decide +kernel
theorem dX2_share_85 : decode cX2_share 85 = .ok (.ifCond .eq 56, 3) := by decide +kernel
theorem dX2_share_88 : decode cX2_share 88 = .ok (.aload_n 0, 1) := by decide +kernel
theorem dX2_share_89 : decode cX2_share 89 = .ok (.getfield 9, 3) := by decide +kernel
theorem dX2_share_92 : decode cX2_share 92 = .ok (.iload_n 1, 1) := by decide +kernel
theorem dX2_share_93 : decode cX2_share 93 = .ok (.aload_n 0, 1) := by decide +kernel
theorem dX2_share_94 : decode cX2_share 94 = .ok (.getfield 15, 3) := by decide +kernel
theorem dX2_share_97 : decode cX2_share 97 = .ok (.iload_n 1, 1) := by decide +kernel
theorem dX2_share_98 : decode cX2_share 98 = .ok (.iaload, 1) := by decide +kernel
theorem dX2_share_99 : decode cX2_share 99 = .ok (.ifCond .ge 9, 3) := by decide +kernel
theorem dX2_share_102 : decode cX2_share 102 = .ok (.iload 6, 2) := by decide +kernel
theorem dX2_share_104 : decode cX2_share 104 = .ok (.ineg, 1) := by decide +kernel
theorem dX2_share_105 : decode cX2_share 105 = .ok (.goto 5, 3) := by decide +kernel
theorem dX2_share_108 : decode cX2_share 108 = .ok (.iload 6, 2) := by decide +kernel
theorem dX2_share_110 : decode cX2_share 110 = .ok (.iastore, 1) := by decide +kernel
theorem dX2_share_111 : decode cX2_share 111 = .ok (.aload_n 0, 1) := by decide +kernel
theorem dX2_share_112 : decode cX2_share 112 = .ok (.getfield 24, 3) := by decide +kernel
theorem dX2_share_115 : decode cX2_share 115 = .ok (.iload_n 1, 1) := by decide +kernel
theorem dX2_share_116 : decode cX2_share 116 = .ok (.aload_n 0, 1) := by decide +kernel
theorem dX2_share_117 : decode cX2_share 117 = .ok (.getfield 9, 3) := by decide +kernel
theorem dX2_share_120 : decode cX2_share 120 = .ok (.iload_n 1, 1) := by decide +kernel
theorem dX2_share_121 : decode cX2_share 121 = .ok (.iaload, 1) := by decide +kernel
theorem dX2_share_122 : decode cX2_share 122 = .ok (.invokevirtual 80, 3) := by decide +kernel
theorem dX2_share_125 : decode cX2_share 125 = .ok (.aload_n 0, 1) := by decide +kernel
theorem dX2_share_126 : decode cX2_share 126 = .ok (.iload_n 1, 1) := by decide +kernel
theorem dX2_share_127 : decode cX2_share 127 = .ok (.iconst 1, 1) := by decide +kernel
theorem dX2_share_128 : decode cX2_share 128 = .ok (.iadd, 1) := by decide +kernel
theorem dX2_share_129 : decode cX2_share 129 = .ok (.iload_n 2, 1) := by decide +kernel
theorem dX2_share_130 : decode cX2_share 130 = .ok (.iload 5, 2) := by decide +kernel
theorem dX2_share_132 : decode cX2_share 132 = .ok (.isub, 1) := by decide +kernel
theorem dX2_share_133 : decode cX2_share 133 = .ok (.invokevirtual 52, 3) := by decide +kernel
theorem dX2_share_136 : decode cX2_share 136 = .ok (.ifCond .eq 5, 3) := by decide +kernel
theorem dX2_share_139 : decode cX2_share 139 = .ok (.iconst 1, 1) := by decide +kernel
theorem dX2_share_140 : decode cX2_share 140 = .ok (.ireturn, 1) := by decide +kernel
theorem dX2_share_141 : decode cX2_share 141 = .ok (.iinc 5 1, 3) := by decide +kernel
theorem dX2_share_144 : decode cX2_share 144 = .ok (.goto (-84), 3) := by decide +kernel
theorem dX2_share_147 : decode cX2_share 147 = .ok (.iconst 0, 1) := by decide +kernel
theorem dX2_share_148 : decode cX2_share 148 = .ok (.ireturn, 1) := by decide +kernel
theorem dX2_keepsOrder_0 : decode cX2_keepsOrder 0 = .ok (.aload_n 0, 1) := by decide +kernel
theorem dX2_keepsOrder_1 : decode cX2_keepsOrder 1 = .ok (.getfield 15, 3) := by decide +kernel
theorem dX2_keepsOrder_4 : decode cX2_keepsOrder 4 = .ok (.iload_n 1, 1) := by decide +kernel
theorem dX2_keepsOrder_5 : decode cX2_keepsOrder 5 = .ok (.iaload, 1) := by decide +kernel
theorem dX2_keepsOrder_6 : decode cX2_keepsOrder 6 = .ok (.invokestatic 63, 3) := by decide +kernel
theorem dX2_keepsOrder_9 : decode cX2_keepsOrder 9 = .ok (.istore_n 3, 1) := by decide +kernel
theorem dX2_keepsOrder_10 : decode cX2_keepsOrder 10 = .ok (.iconst 0, 1) := by decide +kernel
theorem dX2_keepsOrder_11 : decode cX2_keepsOrder 11 = .ok (.istore 4, 2) := by decide +kernel
theorem dX2_keepsOrder_13 : decode cX2_keepsOrder 13 = .ok (.iload 4, 2) := by decide +kernel
theorem dX2_keepsOrder_15 : decode cX2_keepsOrder 15 = .ok (.iload_n 1, 1) := by decide +kernel
theorem dX2_keepsOrder_16 : decode cX2_keepsOrder 16 = .ok (.if_icmp .ge 59, 3) := by decide +kernel
theorem dX2_keepsOrder_19 : decode cX2_keepsOrder 19 = .ok (.aload_n 0, 1) := by decide +kernel
theorem dX2_keepsOrder_20 : decode cX2_keepsOrder 20 = .ok (.getfield 15, 3) := by decide +kernel
theorem dX2_keepsOrder_23 : decode cX2_keepsOrder 23 = .ok (.iload 4, 2) := by decide +kernel
theorem dX2_keepsOrder_25 : decode cX2_keepsOrder 25 = .ok (.iaload, 1) := by decide +kernel
theorem dX2_keepsOrder_26 : decode cX2_keepsOrder 26 = .ok (.invokestatic 63, 3) := by decide +kernel
theorem dX2_keepsOrder_29 : decode cX2_keepsOrder 29 = .ok (.istore 5, 2) := by decide +kernel
theorem dX2_keepsOrder_31 : decode cX2_keepsOrder 31 = .ok (.aload_n 0, 1) := by decide +kernel
theorem dX2_keepsOrder_32 : decode cX2_keepsOrder 32 = .ok (.getfield 9, 3) := by decide +kernel
theorem dX2_keepsOrder_35 : decode cX2_keepsOrder 35 = .ok (.iload 4, 2) := by decide +kernel
theorem dX2_keepsOrder_37 : decode cX2_keepsOrder 37 = .ok (.iaload, 1) := by decide +kernel
theorem dX2_keepsOrder_38 : decode cX2_keepsOrder 38 = .ok (.invokestatic 63, 3) := by decide +kernel
theorem dX2_keepsOrder_41 : decode cX2_keepsOrder 41 = .ok (.istore 6, 2) := by decide +kernel
theorem dX2_keepsOrder_43 : decode cX2_keepsOrder 43 = .ok (.iload 5, 2) := by decide +kernel
theorem dX2_keepsOrder_45 : decode cX2_keepsOrder 45 = .ok (.iload_n 3, 1) := by decide +kernel
theorem dX2_keepsOrder_46 : decode cX2_keepsOrder 46 = .ok (.if_icmp .le 9, 3) := by decide +kernel
theorem dX2_keepsOrder_49 : decode cX2_keepsOrder 49 = .ok (.iload 6, 2) := by decide +kernel
theorem dX2_keepsOrder_51 : decode cX2_keepsOrder 51 = .ok (.iload_n 2, 1) := by decide +kernel
theorem dX2_keepsOrder_52 : decode cX2_keepsOrder 52 = .ok (.if_icmp .le 15, 3) := by decide +kernel
theorem dX2_keepsOrder_55 : decode cX2_keepsOrder 55 = .ok (.iload 5, 2) := by decide +kernel
theorem dX2_keepsOrder_57 : decode cX2_keepsOrder 57 = .ok (.iload_n 3, 1) := by decide +kernel
theorem dX2_keepsOrder_58 : decode cX2_keepsOrder 58 = .ok (.if_icmp .ge 11, 3) := by decide +kernel
theorem dX2_keepsOrder_61 : decode cX2_keepsOrder 61 = .ok (.iload 6, 2) := by decide +kernel
theorem dX2_keepsOrder_63 : decode cX2_keepsOrder 63 = .ok (.iload_n 2, 1) := by decide +kernel
theorem dX2_keepsOrder_64 : decode cX2_keepsOrder 64 = .ok (.if_icmp .lt 5, 3) := by decide +kernel
theorem dX2_keepsOrder_67 : decode cX2_keepsOrder 67 = .ok (.iconst 0, 1) := by decide +kernel
theorem dX2_keepsOrder_68 : decode cX2_keepsOrder 68 = .ok (.ireturn, 1) := by decide +kernel
theorem dX2_keepsOrder_69 : decode cX2_keepsOrder 69 = .ok (.iinc 4 1, 3) := by decide +kernel
theorem dX2_keepsOrder_72 : decode cX2_keepsOrder 72 = .ok (.goto (-59), 3) := by decide +kernel
theorem dX2_keepsOrder_75 : decode cX2_keepsOrder 75 = .ok (.iconst 1, 1) := by decide +kernel
theorem dX2_keepsOrder_76 : decode cX2_keepsOrder 76 = .ok (.ireturn, 1) := by decide +kernel
theorem dX2_separates_0 : decode cX2_separates 0 = .ok (.aload_n 0, 1) := by decide +kernel
theorem dX2_separates_1 : decode cX2_separates 1 = .ok (.getfield 24, 3) := by decide +kernel
theorem dX2_separates_4 : decode cX2_separates 4 = .ok (.aload_n 0, 1) := by decide +kernel
theorem dX2_separates_5 : decode cX2_separates 5 = .ok (.getfield 28, 3) := by decide +kernel
theorem dX2_separates_8 : decode cX2_separates 8 = .ok (.aload_n 0, 1) := by decide +kernel
theorem dX2_separates_9 : decode cX2_separates 9 = .ok (.getfield 32, 3) := by decide +kernel
theorem dX2_separates_12 : decode cX2_separates 12 = .ok (.invokevirtual 84, 3) := by decide +kernel
theorem dX2_separates_15 : decode cX2_separates 15 = .ok (.aload_n 0, 1) := by decide +kernel
theorem dX2_separates_16 : decode cX2_separates 16 = .ok (.getfield 24, 3) := by decide +kernel
theorem dX2_separates_19 : decode cX2_separates 19 = .ok (.getfield 88, 3) := by decide +kernel
theorem dX2_separates_22 : decode cX2_separates 22 = .ok (.aload_n 0, 1) := by decide +kernel
theorem dX2_separates_23 : decode cX2_separates 23 = .ok (.getfield 24, 3) := by decide +kernel
theorem dX2_separates_26 : decode cX2_separates 26 = .ok (.getfield 91, 3) := by decide +kernel
theorem dX2_separates_29 : decode cX2_separates 29 = .ok (.if_icmp .lt 5, 3) := by decide +kernel
theorem dX2_separates_32 : decode cX2_separates 32 = .ok (.iconst 0, 1) := by decide +kernel
theorem dX2_separates_33 : decode cX2_separates 33 = .ok (.ireturn, 1) := by decide +kernel
theorem dX2_separates_34 : decode cX2_separates 34 = .ok (.aload_n 0, 1) := by decide +kernel
theorem dX2_separates_35 : decode cX2_separates 35 = .ok (.getfield 32, 3) := by decide +kernel
theorem dX2_separates_38 : decode cX2_separates 38 = .ok (.aload_n 0, 1) := by decide +kernel
theorem dX2_separates_39 : decode cX2_separates 39 = .ok (.getfield 28, 3) := by decide +kernel
theorem dX2_separates_42 : decode cX2_separates 42 = .ok (.invokestatic 94, 3) := by decide +kernel
theorem dX2_separates_45 : decode cX2_separates 45 = .ok (.lcmp, 1) := by decide +kernel
theorem dX2_separates_46 : decode cX2_separates 46 = .ok (.ifCond .eq 7, 3) := by decide +kernel
theorem dX2_separates_49 : decode cX2_separates 49 = .ok (.iconst 1, 1) := by decide +kernel
theorem dX2_separates_50 : decode cX2_separates 50 = .ok (.goto 4, 3) := by decide +kernel
theorem dX2_separates_53 : decode cX2_separates 53 = .ok (.iconst 0, 1) := by decide +kernel
theorem dX2_separates_54 : decode cX2_separates 54 = .ok (.istore_n 1, 1) := by decide +kernel
theorem dX2_separates_55 : decode cX2_separates 55 = .ok (.aload_n 0, 1) := by decide +kernel
theorem dX2_separates_56 : decode cX2_separates 56 = .ok (.iload_n 1, 1) := by decide +kernel
theorem dX2_separates_57 : decode cX2_separates 57 = .ok (.ifCond .eq 15, 3) := by decide +kernel
theorem dX2_separates_60 : decode cX2_separates 60 = .ok (.aload_n 0, 1) := by decide +kernel
theorem dX2_separates_61 : decode cX2_separates 61 = .ok (.getfield 24, 3) := by decide +kernel
theorem dX2_separates_64 : decode cX2_separates 64 = .ok (.getfield 88, 3) := by decide +kernel
theorem dX2_separates_67 : decode cX2_separates 67 = .ok (.iconst 1, 1) := by decide +kernel
theorem dX2_separates_68 : decode cX2_separates 68 = .ok (.iadd, 1) := by decide +kernel
theorem dX2_separates_69 : decode cX2_separates 69 = .ok (.goto 10, 3) := by decide +kernel
theorem dX2_separates_72 : decode cX2_separates 72 = .ok (.aload_n 0, 1) := by decide +kernel
theorem dX2_separates_73 : decode cX2_separates 73 = .ok (.getfield 24, 3) := by decide +kernel
theorem dX2_separates_76 : decode cX2_separates 76 = .ok (.getfield 91, 3) := by decide +kernel
theorem dX2_separates_79 : decode cX2_separates 79 = .ok (.putfield 98, 3) := by decide +kernel
theorem dX2_separates_82 : decode cX2_separates 82 = .ok (.iconst 1, 1) := by decide +kernel
theorem dX2_separates_83 : decode cX2_separates 83 = .ok (.ireturn, 1) := by decide +kernel
theorem dX2_thousandthsOff_0 : decode cX2_thousandthsOff 0 = .ok (.sipush 1000, 3) := by decide +kernel
theorem dX2_thousandthsOff_3 : decode cX2_thousandthsOff 3 = .ok (.istore_n 1, 1) := by decide +kernel
theorem dX2_thousandthsOff_4 : decode cX2_thousandthsOff 4 = .ok (.iconst 1, 1) := by decide +kernel
theorem dX2_thousandthsOff_5 : decode cX2_thousandthsOff 5 = .ok (.istore_n 2, 1) := by decide +kernel
theorem dX2_thousandthsOff_6 : decode cX2_thousandthsOff 6 = .ok (.iload_n 2, 1) := by decide +kernel
theorem dX2_thousandthsOff_7 : decode cX2_thousandthsOff 7 = .ok (.aload_n 0, 1) := by decide +kernel
theorem dX2_thousandthsOff_8 : decode cX2_thousandthsOff 8 = .ok (.getfield 28, 3) := by decide +kernel
theorem dX2_thousandthsOff_11 : decode cX2_thousandthsOff 11 = .ok (.invokestatic 101, 3) := by decide +kernel
theorem dX2_thousandthsOff_14 : decode cX2_thousandthsOff 14 = .ok (.if_icmp .ge 57, 3) := by decide +kernel
theorem dX2_thousandthsOff_17 : decode cX2_thousandthsOff 17 = .ok (.sipush 1000, 3) := by decide +kernel
theorem dX2_thousandthsOff_20 : decode cX2_thousandthsOff 20 = .ok (.aload_n 0, 1) := by decide +kernel
theorem dX2_thousandthsOff_21 : decode cX2_thousandthsOff 21 = .ok (.getfield 24, 3) := by decide +kernel
theorem dX2_thousandthsOff_24 : decode cX2_thousandthsOff 24 = .ok (.getfield 104, 3) := by decide +kernel
theorem dX2_thousandthsOff_27 : decode cX2_thousandthsOff 27 = .ok (.iload_n 2, 1) := by decide +kernel
theorem dX2_thousandthsOff_28 : decode cX2_thousandthsOff 28 = .ok (.iaload, 1) := by decide +kernel
theorem dX2_thousandthsOff_29 : decode cX2_thousandthsOff 29 = .ok (.aload_n 0, 1) := by decide +kernel
theorem dX2_thousandthsOff_30 : decode cX2_thousandthsOff 30 = .ok (.getfield 98, 3) := by decide +kernel
theorem dX2_thousandthsOff_33 : decode cX2_thousandthsOff 33 = .ok (.isub, 1) := by decide +kernel
theorem dX2_thousandthsOff_34 : decode cX2_thousandthsOff 34 = .ok (.imul, 1) := by decide +kernel
theorem dX2_thousandthsOff_35 : decode cX2_thousandthsOff 35 = .ok (.sipush 500, 3) := by decide +kernel
theorem dX2_thousandthsOff_38 : decode cX2_thousandthsOff 38 = .ok (.iadd, 1) := by decide +kernel
theorem dX2_thousandthsOff_39 : decode cX2_thousandthsOff 39 = .ok (.invokestatic 63, 3) := by decide +kernel
theorem dX2_thousandthsOff_42 : decode cX2_thousandthsOff 42 = .ok (.istore_n 3, 1) := by decide +kernel
theorem dX2_thousandthsOff_43 : decode cX2_thousandthsOff 43 = .ok (.iload_n 2, 1) := by decide +kernel
theorem dX2_thousandthsOff_44 : decode cX2_thousandthsOff 44 = .ok (.invokestatic 107, 3) := by decide +kernel
theorem dX2_thousandthsOff_47 : decode cX2_thousandthsOff 47 = .ok (.istore 4, 2) := by decide +kernel
theorem dX2_thousandthsOff_49 : decode cX2_thousandthsOff 49 = .ok (.iload 4, 2) := by decide +kernel
theorem dX2_thousandthsOff_51 : decode cX2_thousandthsOff 51 = .ok (.ifCond .le 14, 3) := by decide +kernel
theorem dX2_thousandthsOff_54 : decode cX2_thousandthsOff 54 = .ok (.iload_n 1, 1) := by decide +kernel
theorem dX2_thousandthsOff_55 : decode cX2_thousandthsOff 55 = .ok (.iload_n 3, 1) := by decide +kernel
theorem dX2_thousandthsOff_56 : decode cX2_thousandthsOff 56 = .ok (.iconst 1, 1) := by decide +kernel
theorem dX2_thousandthsOff_57 : decode cX2_thousandthsOff 57 = .ok (.isub, 1) := by decide +kernel
theorem dX2_thousandthsOff_58 : decode cX2_thousandthsOff 58 = .ok (.iload 4, 2) := by decide +kernel
theorem dX2_thousandthsOff_60 : decode cX2_thousandthsOff 60 = .ok (.idiv, 1) := by decide +kernel
theorem dX2_thousandthsOff_61 : decode cX2_thousandthsOff 61 = .ok (.invokestatic 111, 3) := by decide +kernel
theorem dX2_thousandthsOff_64 : decode cX2_thousandthsOff 64 = .ok (.istore_n 1, 1) := by decide +kernel
theorem dX2_thousandthsOff_65 : decode cX2_thousandthsOff 65 = .ok (.iinc 2 1, 3) := by decide +kernel
theorem dX2_thousandthsOff_68 : decode cX2_thousandthsOff 68 = .ok (.goto (-62), 3) := by decide +kernel
theorem dX2_thousandthsOff_71 : decode cX2_thousandthsOff 71 = .ok (.iload_n 1, 1) := by decide +kernel
theorem dX2_thousandthsOff_72 : decode cX2_thousandthsOff 72 = .ok (.ireturn, 1) := by decide +kernel
theorem dX3_init_0 : decode cX3_init 0 = .ok (.aload_n 0, 1) := by decide +kernel
theorem dX3_init_1 : decode cX3_init 1 = .ok (.invokespecial 3, 3) := by decide +kernel
theorem dX3_init_4 : decode cX3_init 4 = .ok (.aload_n 0, 1) := by decide +kernel
theorem dX3_init_5 : decode cX3_init 5 = .ok (.iconst 1, 1) := by decide +kernel
theorem dX3_init_6 : decode cX3_init 6 = .ok (.putfield 9, 3) := by decide +kernel
theorem dX3_init_9 : decode cX3_init 9 = .ok (.aload_n 0, 1) := by decide +kernel
theorem dX3_init_10 : decode cX3_init 10 = .ok (.bipush 8, 2) := by decide +kernel
theorem dX3_init_12 : decode cX3_init 12 = .ok (.newarray .long, 2) := by decide +kernel
theorem dX3_init_14 : decode cX3_init 14 = .ok (.putfield 15, 3) := by decide +kernel
theorem dX3_init_17 : decode cX3_init 17 = .ok (.aload_n 0, 1) := by decide +kernel
theorem dX3_init_18 : decode cX3_init 18 = .ok (.bipush 8, 2) := by decide +kernel
theorem dX3_init_20 : decode cX3_init 20 = .ok (.newarray .int, 2) := by decide +kernel
theorem dX3_init_22 : decode cX3_init 22 = .ok (.putfield 19, 3) := by decide +kernel
theorem dX3_init_25 : decode cX3_init 25 = .ok (.aload_n 0, 1) := by decide +kernel
theorem dX3_init_26 : decode cX3_init 26 = .ok (.bipush 9, 2) := by decide +kernel
theorem dX3_init_28 : decode cX3_init 28 = .ok (.bipush 12, 2) := by decide +kernel
theorem dX3_init_30 : decode cX3_init 30 = .ok (.multianewarray 23 2, 4) := by decide +kernel
theorem dX3_init_34 : decode cX3_init 34 = .ok (.putfield 25, 3) := by decide +kernel
theorem dX3_init_37 : decode cX3_init 37 = .ok (.aload_n 0, 1) := by decide +kernel
theorem dX3_init_38 : decode cX3_init 38 = .ok (.bipush 8, 2) := by decide +kernel
theorem dX3_init_40 : decode cX3_init 40 = .ok (.newarray .int, 2) := by decide +kernel
theorem dX3_init_42 : decode cX3_init 42 = .ok (.putfield 28, 3) := by decide +kernel
theorem dX3_init_45 : decode cX3_init 45 = .ok (.aload_n 0, 1) := by decide +kernel
theorem dX3_init_46 : decode cX3_init 46 = .ok (.bipush 8, 2) := by decide +kernel
theorem dX3_init_48 : decode cX3_init 48 = .ok (.newarray .long, 2) := by decide +kernel
theorem dX3_init_50 : decode cX3_init 50 = .ok (.putfield 31, 3) := by decide +kernel
theorem dX3_init_53 : decode cX3_init 53 = .ok (.return_, 1) := by decide +kernel
theorem dX3_clear_0 : decode cX3_clear 0 = .ok (.aload_n 0, 1) := by decide +kernel
theorem dX3_clear_1 : decode cX3_clear 1 = .ok (.iload_n 1, 1) := by decide +kernel
theorem dX3_clear_2 : decode cX3_clear 2 = .ok (.putfield 9, 3) := by decide +kernel
theorem dX3_clear_5 : decode cX3_clear 5 = .ok (.aload_n 0, 1) := by decide +kernel
theorem dX3_clear_6 : decode cX3_clear 6 = .ok (.iconst 0, 1) := by decide +kernel
theorem dX3_clear_7 : decode cX3_clear 7 = .ok (.putfield 34, 3) := by decide +kernel
theorem dX3_clear_10 : decode cX3_clear 10 = .ok (.aload_n 0, 1) := by decide +kernel
theorem dX3_clear_11 : decode cX3_clear 11 = .ok (.getfield 25, 3) := by decide +kernel
theorem dX3_clear_14 : decode cX3_clear 14 = .ok (.iconst 0, 1) := by decide +kernel
theorem dX3_clear_15 : decode cX3_clear 15 = .ok (.aaload, 1) := by decide +kernel
theorem dX3_clear_16 : decode cX3_clear 16 = .ok (.iconst 0, 1) := by decide +kernel
theorem dX3_clear_17 : decode cX3_clear 17 = .ok (.invokestatic 37, 3) := by decide +kernel
theorem dX3_clear_20 : decode cX3_clear 20 = .ok (.return_, 1) := by decide +kernel
theorem dX3_swapNextWeight_0 : decode cX3_swapNextWeight 0 = .ok (.aload_n 0, 1) := by decide +kernel
theorem dX3_swapNextWeight_1 : decode cX3_swapNextWeight 1 = .ok (.getfield 25, 3) := by decide +kernel
theorem dX3_swapNextWeight_4 : decode cX3_swapNextWeight 4 = .ok (.aload_n 0, 1) := by decide +kernel
theorem dX3_swapNextWeight_5 : decode cX3_swapNextWeight 5 = .ok (.getfield 34, 3) := by decide +kernel
theorem dX3_swapNextWeight_8 : decode cX3_swapNextWeight 8 = .ok (.aaload, 1) := by decide +kernel
theorem dX3_swapNextWeight_9 : decode cX3_swapNextWeight 9 = .ok (.iload_n 1, 1) := by decide +kernel
theorem dX3_swapNextWeight_10 : decode cX3_swapNextWeight 10 = .ok (.iaload, 1) := by decide +kernel
theorem dX3_swapNextWeight_11 : decode cX3_swapNextWeight 11 = .ok (.istore_n 3, 1) := by decide +kernel
theorem dX3_swapNextWeight_12 : decode cX3_swapNextWeight 12 = .ok (.aload_n 0, 1) := by decide +kernel
theorem dX3_swapNextWeight_13 : decode cX3_swapNextWeight 13 = .ok (.getfield 25, 3) := by decide +kernel
theorem dX3_swapNextWeight_16 : decode cX3_swapNextWeight 16 = .ok (.aload_n 0, 1) := by decide +kernel
theorem dX3_swapNextWeight_17 : decode cX3_swapNextWeight 17 = .ok (.getfield 34, 3) := by decide +kernel
theorem dX3_swapNextWeight_20 : decode cX3_swapNextWeight 20 = .ok (.aaload, 1) := by decide +kernel
theorem dX3_swapNextWeight_21 : decode cX3_swapNextWeight 21 = .ok (.iload_n 1, 1) := by decide +kernel
theorem dX3_swapNextWeight_22 : decode cX3_swapNextWeight 22 = .ok (.iload_n 2, 1) := by decide +kernel
theorem dX3_swapNextWeight_23 : decode cX3_swapNextWeight 23 = .ok (.iastore, 1) := by decide +kernel
theorem dX3_swapNextWeight_24 : decode cX3_swapNextWeight 24 = .ok (.iload_n 3, 1) := by decide +kernel
theorem dX3_swapNextWeight_25 : decode cX3_swapNextWeight 25 = .ok (.ireturn, 1) := by decide +kernel
theorem dX3_append_0 : decode cX3_append 0 = .ok (.aload_n 0, 1) := by decide +kernel
theorem dX3_append_1 : decode cX3_append 1 = .ok (.getfield 34, 3) := by decide +kernel
theorem dX3_append_4 : decode cX3_append 4 = .ok (.istore_n 2, 1) := by decide +kernel
theorem dX3_append_5 : decode cX3_append 5 = .ok (.aload_n 0, 1) := by decide +kernel
theorem dX3_append_6 : decode cX3_append 6 = .ok (.getfield 28, 3) := by decide +kernel
theorem dX3_append_9 : decode cX3_append 9 = .ok (.iload_n 2, 1) := by decide +kernel
theorem dX3_append_10 : decode cX3_append 10 = .ok (.iload_n 1, 1) := by decide +kernel
theorem dX3_append_11 : decode cX3_append 11 = .ok (.iastore, 1) := by decide +kernel
theorem dX3_append_12 : decode cX3_append 12 = .ok (.aload_n 0, 1) := by decide +kernel
theorem dX3_append_13 : decode cX3_append 13 = .ok (.getfield 15, 3) := by decide +kernel
theorem dX3_append_16 : decode cX3_append 16 = .ok (.iload_n 2, 1) := by decide +kernel
theorem dX3_append_17 : decode cX3_append 17 = .ok (.aload_n 0, 1) := by decide +kernel
theorem dX3_append_18 : decode cX3_append 18 = .ok (.iload_n 2, 1) := by decide +kernel
theorem dX3_append_19 : decode cX3_append 19 = .ok (.aload_n 0, 1) := by decide +kernel
theorem dX3_append_20 : decode cX3_append 20 = .ok (.getfield 15, 3) := by decide +kernel
theorem dX3_append_23 : decode cX3_append 23 = .ok (.invokevirtual 43, 3) := by decide +kernel
theorem dX3_append_26 : decode cX3_append 26 = .ok (.lastore, 1) := by decide +kernel
theorem dX3_append_27 : decode cX3_append 27 = .ok (.aload_n 0, 1) := by decide +kernel
theorem dX3_append_28 : decode cX3_append 28 = .ok (.getfield 19, 3) := by decide +kernel
theorem dX3_append_31 : decode cX3_append 31 = .ok (.iload_n 2, 1) := by decide +kernel
theorem dX3_append_32 : decode cX3_append 32 = .ok (.aload_n 0, 1) := by decide +kernel
theorem dX3_append_33 : decode cX3_append 33 = .ok (.iload_n 2, 1) := by decide +kernel
theorem dX3_append_34 : decode cX3_append 34 = .ok (.invokevirtual 47, 3) := by decide +kernel
theorem dX3_append_37 : decode cX3_append 37 = .ok (.iastore, 1) := by decide +kernel
theorem dX3_append_38 : decode cX3_append 38 = .ok (.aload_n 0, 1) := by decide +kernel
theorem dX3_append_39 : decode cX3_append 39 = .ok (.iload_n 2, 1) := by decide +kernel
theorem dX3_append_40 : decode cX3_append 40 = .ok (.iconst 1, 1) := by decide +kernel
theorem dX3_append_41 : decode cX3_append 41 = .ok (.iadd, 1) := by decide +kernel
theorem dX3_append_42 : decode cX3_append 42 = .ok (.putfield 34, 3) := by decide +kernel
theorem dX3_append_45 : decode cX3_append 45 = .ok (.aload_n 0, 1) := by decide +kernel
theorem dX3_append_46 : decode cX3_append 46 = .ok (.getfield 25, 3) := by decide +kernel
theorem dX3_append_49 : decode cX3_append 49 = .ok (.aload_n 0, 1) := by decide +kernel
theorem dX3_append_50 : decode cX3_append 50 = .ok (.getfield 34, 3) := by decide +kernel
theorem dX3_append_53 : decode cX3_append 53 = .ok (.aaload, 1) := by decide +kernel
theorem dX3_append_54 : decode cX3_append 54 = .ok (.iconst 0, 1) := by decide +kernel
theorem dX3_append_55 : decode cX3_append 55 = .ok (.invokestatic 37, 3) := by decide +kernel
theorem dX3_append_58 : decode cX3_append 58 = .ok (.iload_n 2, 1) := by decide +kernel
theorem dX3_append_59 : decode cX3_append 59 = .ok (.ireturn, 1) := by decide +kernel
theorem dX3_lastTold_0 : decode cX3_lastTold 0 = .ok (.aload_n 0, 1) := by decide +kernel
theorem dX3_lastTold_1 : decode cX3_lastTold 1 = .ok (.getfield 34, 3) := by decide +kernel
theorem dX3_lastTold_4 : decode cX3_lastTold 4 = .ok (.ifCond .le 17, 3) := by decide +kernel
theorem dX3_lastTold_7 : decode cX3_lastTold 7 = .ok (.aload_n 0, 1) := by decide +kernel
theorem dX3_lastTold_8 : decode cX3_lastTold 8 = .ok (.getfield 15, 3) := by decide +kernel
theorem dX3_lastTold_11 : decode cX3_lastTold 11 = .ok (.aload_n 0, 1) := by decide +kernel
theorem dX3_lastTold_12 : decode cX3_lastTold 12 = .ok (.getfield 34, 3) := by decide +kernel
theorem dX3_lastTold_15 : decode cX3_lastTold 15 = .ok (.iconst 1, 1) := by decide +kernel
theorem dX3_lastTold_16 : decode cX3_lastTold 16 = .ok (.isub, 1) := by decide +kernel
theorem dX3_lastTold_17 : decode cX3_lastTold 17 = .ok (.laload, 1) := by decide +kernel
theorem dX3_lastTold_18 : decode cX3_lastTold 18 = .ok (.goto 4, 3) := by decide +kernel
theorem dX3_lastTold_21 : decode cX3_lastTold 21 = .ok (.lconst 0, 1) := by decide +kernel
theorem dX3_lastTold_22 : decode cX3_lastTold 22 = .ok (.lreturn, 1) := by decide +kernel
theorem dX3_lastToldWith_0 : decode cX3_lastToldWith 0 = .ok (.iconst 0, 1) := by decide +kernel
theorem dX3_lastToldWith_1 : decode cX3_lastToldWith 1 = .ok (.istore_n 3, 1) := by decide +kernel
theorem dX3_lastToldWith_2 : decode cX3_lastToldWith 2 = .ok (.iload_n 3, 1) := by decide +kernel
theorem dX3_lastToldWith_3 : decode cX3_lastToldWith 3 = .ok (.aload_n 0, 1) := by decide +kernel
theorem dX3_lastToldWith_4 : decode cX3_lastToldWith 4 = .ok (.getfield 34, 3) := by decide +kernel
theorem dX3_lastToldWith_7 : decode cX3_lastToldWith 7 = .ok (.if_icmp .ge 53, 3) := by decide +kernel
theorem dX3_lastToldWith_10 : decode cX3_lastToldWith 10 = .ok (.iload_n 3, 1) := by decide +kernel
theorem dX3_lastToldWith_11 : decode cX3_lastToldWith 11 = .ok (.iload_n 1, 1) := by decide +kernel
theorem dX3_lastToldWith_12 : decode cX3_lastToldWith 12 = .ok (.if_icmp .ne 27, 3) := by decide +kernel
theorem dX3_lastToldWith_15 : decode cX3_lastToldWith 15 = .ok (.aload_n 0, 1) := by decide +kernel
theorem dX3_lastToldWith_16 : decode cX3_lastToldWith 16 = .ok (.getfield 31, 3) := by decide +kernel
theorem dX3_lastToldWith_19 : decode cX3_lastToldWith 19 = .ok (.iload_n 3, 1) := by decide +kernel
theorem dX3_lastToldWith_20 : decode cX3_lastToldWith 20 = .ok (.iload_n 2, 1) := by decide +kernel
theorem dX3_lastToldWith_21 : decode cX3_lastToldWith 21 = .ok (.ifCond .eq 13, 3) := by decide +kernel
theorem dX3_lastToldWith_24 : decode cX3_lastToldWith 24 = .ok (.aload_n 0, 1) := by decide +kernel
theorem dX3_lastToldWith_25 : decode cX3_lastToldWith 25 = .ok (.getfield 9, 3) := by decide +kernel
theorem dX3_lastToldWith_28 : decode cX3_lastToldWith 28 = .ok (.invokestatic 51, 3) := by decide +kernel
theorem dX3_lastToldWith_31 : decode cX3_lastToldWith 31 = .ok (.goto 4, 3) := by decide +kernel
theorem dX3_lastToldWith_34 : decode cX3_lastToldWith 34 = .ok (.lconst 0, 1) := by decide +kernel
theorem dX3_lastToldWith_35 : decode cX3_lastToldWith 35 = .ok (.lastore, 1) := by decide +kernel
theorem dX3_lastToldWith_36 : decode cX3_lastToldWith 36 = .ok (.goto 18, 3) := by decide +kernel
theorem dX3_lastToldWith_39 : decode cX3_lastToldWith 39 = .ok (.aload_n 0, 1) := by decide +kernel
theorem dX3_lastToldWith_40 : decode cX3_lastToldWith 40 = .ok (.getfield 31, 3) := by decide +kernel
theorem dX3_lastToldWith_43 : decode cX3_lastToldWith 43 = .ok (.iload_n 3, 1) := by decide +kernel
theorem dX3_lastToldWith_44 : decode cX3_lastToldWith 44 = .ok (.aload_n 0, 1) := by decide +kernel
theorem dX3_lastToldWith_45 : decode cX3_lastToldWith 45 = .ok (.iload_n 3, 1) := by decide +kernel
theorem dX3_lastToldWith_46 : decode cX3_lastToldWith 46 = .ok (.aload_n 0, 1) := by decide +kernel
theorem dX3_lastToldWith_47 : decode cX3_lastToldWith 47 = .ok (.getfield 31, 3) := by decide +kernel
theorem dX3_lastToldWith_50 : decode cX3_lastToldWith 50 = .ok (.invokevirtual 43, 3) := by decide +kernel
theorem dX3_lastToldWith_53 : decode cX3_lastToldWith 53 = .ok (.lastore, 1) := by decide +kernel
theorem dX3_lastToldWith_54 : decode cX3_lastToldWith 54 = .ok (.iinc 3 1, 3) := by decide +kernel
theorem dX3_lastToldWith_57 : decode cX3_lastToldWith 57 = .ok (.goto (-55), 3) := by decide +kernel
theorem dX3_lastToldWith_60 : decode cX3_lastToldWith 60 = .ok (.aload_n 0, 1) := by decide +kernel
theorem dX3_lastToldWith_61 : decode cX3_lastToldWith 61 = .ok (.getfield 34, 3) := by decide +kernel
theorem dX3_lastToldWith_64 : decode cX3_lastToldWith 64 = .ok (.ifCond .le 17, 3) := by decide +kernel
theorem dX3_lastToldWith_67 : decode cX3_lastToldWith 67 = .ok (.aload_n 0, 1) := by decide +kernel
theorem dX3_lastToldWith_68 : decode cX3_lastToldWith 68 = .ok (.getfield 31, 3) := by decide +kernel
theorem dX3_lastToldWith_71 : decode cX3_lastToldWith 71 = .ok (.aload_n 0, 1) := by decide +kernel
theorem dX3_lastToldWith_72 : decode cX3_lastToldWith 72 = .ok (.getfield 34, 3) := by decide +kernel
theorem dX3_lastToldWith_75 : decode cX3_lastToldWith 75 = .ok (.iconst 1, 1) := by decide +kernel
theorem dX3_lastToldWith_76 : decode cX3_lastToldWith 76 = .ok (.isub, 1) := by decide +kernel
theorem dX3_lastToldWith_77 : decode cX3_lastToldWith 77 = .ok (.laload, 1) := by decide +kernel
theorem dX3_lastToldWith_78 : decode cX3_lastToldWith 78 = .ok (.goto 4, 3) := by decide +kernel
theorem dX3_lastToldWith_81 : decode cX3_lastToldWith 81 = .ok (.lconst 0, 1) := by decide +kernel
theorem dX3_lastToldWith_82 : decode cX3_lastToldWith 82 = .ok (.lreturn, 1) := by decide +kernel
theorem dX3_toldBy_0 : decode cX3_toldBy 0 = .ok (.lconst 0, 1) := by decide +kernel
theorem dX3_toldBy_1 : decode cX3_toldBy 1 = .ok (.lstore_n 3, 1) := by decide +kernel
theorem dX3_toldBy_2 : decode cX3_toldBy 2 = .ok (.iconst 0, 1) := by decide +kernel
theorem dX3_toldBy_3 : decode cX3_toldBy 3 = .ok (.istore 5, 2) := by decide +kernel
theorem dX3_toldBy_5 : decode cX3_toldBy 5 = .ok (.iload 5, 2) := by decide +kernel
theorem dX3_toldBy_7 : decode cX3_toldBy 7 = .ok (.aload_n 0, 1) := by decide +kernel
theorem dX3_toldBy_8 : decode cX3_toldBy 8 = .ok (.getfield 9, 3) := by decide +kernel
theorem dX3_toldBy_11 : decode cX3_toldBy 11 = .ok (.invokestatic 57, 3) := by decide +kernel
theorem dX3_toldBy_14 : decode cX3_toldBy 14 = .ok (.if_icmp .ge 33, 3) := by decide +kernel
theorem dX3_toldBy_17 : decode cX3_toldBy 17 = .ok (.aload_n 0, 1) := by decide +kernel
theorem dX3_toldBy_18 : decode cX3_toldBy 18 = .ok (.iload 5, 2) := by decide +kernel
theorem dX3_toldBy_20 : decode cX3_toldBy 20 = .ok (.iload_n 1, 1) := by decide +kernel
theorem dX3_toldBy_21 : decode cX3_toldBy 21 = .ok (.aload_n 2, 1) := by decide +kernel
theorem dX3_toldBy_22 : decode cX3_toldBy 22 = .ok (.invokevirtual 60, 3) := by decide +kernel
theorem dX3_toldBy_25 : decode cX3_toldBy 25 = .ok (.aload_n 0, 1) := by decide +kernel
theorem dX3_toldBy_26 : decode cX3_toldBy 26 = .ok (.getfield 28, 3) := by decide +kernel
theorem dX3_toldBy_29 : decode cX3_toldBy 29 = .ok (.iload_n 1, 1) := by decide +kernel
theorem dX3_toldBy_30 : decode cX3_toldBy 30 = .ok (.iaload, 1) := by decide +kernel
theorem dX3_toldBy_31 : decode cX3_toldBy 31 = .ok (.if_icmp .lt 10, 3) := by decide +kernel
theorem dX3_toldBy_34 : decode cX3_toldBy 34 = .ok (.lload_n 3, 1) := by decide +kernel
theorem dX3_toldBy_35 : decode cX3_toldBy 35 = .ok (.lconst 1, 1) := by decide +kernel
theorem dX3_toldBy_36 : decode cX3_toldBy 36 = .ok (.iload 5, 2) := by decide +kernel
theorem dX3_toldBy_38 : decode cX3_toldBy 38 = .ok (.lshl, 1) := by decide +kernel
theorem dX3_toldBy_39 : decode cX3_toldBy 39 = .ok (.lor, 1) := by decide +kernel
theorem dX3_toldBy_40 : decode cX3_toldBy 40 = .ok (.lstore_n 3, 1) := by decide +kernel
theorem dX3_toldBy_41 : decode cX3_toldBy 41 = .ok (.iinc 5 1, 3) := by decide +kernel
theorem dX3_toldBy_44 : decode cX3_toldBy 44 = .ok (.goto (-39), 3) := by decide +kernel
theorem dX3_toldBy_47 : decode cX3_toldBy 47 = .ok (.lload_n 3, 1) := by decide +kernel
theorem dX3_toldBy_48 : decode cX3_toldBy 48 = .ok (.lreturn, 1) := by decide +kernel
theorem dX3_sumAt_0 : decode cX3_sumAt 0 = .ok (.iconst 0, 1) := by decide +kernel
theorem dX3_sumAt_1 : decode cX3_sumAt 1 = .ok (.istore 4, 2) := by decide +kernel
theorem dX3_sumAt_3 : decode cX3_sumAt 3 = .ok (.iconst 0, 1) := by decide +kernel
theorem dX3_sumAt_4 : decode cX3_sumAt 4 = .ok (.istore 5, 2) := by decide +kernel
theorem dX3_sumAt_6 : decode cX3_sumAt 6 = .ok (.iload 5, 2) := by decide +kernel
theorem dX3_sumAt_8 : decode cX3_sumAt 8 = .ok (.aload_n 0, 1) := by decide +kernel
theorem dX3_sumAt_9 : decode cX3_sumAt 9 = .ok (.getfield 9, 3) := by decide +kernel
theorem dX3_sumAt_12 : decode cX3_sumAt 12 = .ok (.if_icmp .ge 32, 3) := by decide +kernel
theorem dX3_sumAt_15 : decode cX3_sumAt 15 = .ok (.iload_n 1, 1) := by decide +kernel
theorem dX3_sumAt_16 : decode cX3_sumAt 16 = .ok (.iload 5, 2) := by decide +kernel
theorem dX3_sumAt_18 : decode cX3_sumAt 18 = .ok (.invokestatic 64, 3) := by decide +kernel
theorem dX3_sumAt_21 : decode cX3_sumAt 21 = .ok (.ifCond .eq 17, 3) := by decide +kernel
theorem dX3_sumAt_24 : decode cX3_sumAt 24 = .ok (.iload 4, 2) := by decide +kernel
theorem dX3_sumAt_26 : decode cX3_sumAt 26 = .ok (.aload_n 0, 1) := by decide +kernel
theorem dX3_sumAt_27 : decode cX3_sumAt 27 = .ok (.getfield 25, 3) := by decide +kernel
theorem dX3_sumAt_30 : decode cX3_sumAt 30 = .ok (.iload_n 2, 1) := by decide +kernel
theorem dX3_sumAt_31 : decode cX3_sumAt 31 = .ok (.aaload, 1) := by decide +kernel
theorem dX3_sumAt_32 : decode cX3_sumAt 32 = .ok (.iload 5, 2) := by decide +kernel
theorem dX3_sumAt_34 : decode cX3_sumAt 34 = .ok (.iaload, 1) := by decide +kernel
theorem dX3_sumAt_35 : decode cX3_sumAt 35 = .ok (.iadd, 1) := by decide +kernel
theorem dX3_sumAt_36 : decode cX3_sumAt 36 = .ok (.istore 4, 2) := by decide +kernel
theorem dX3_sumAt_38 : decode cX3_sumAt 38 = .ok (.iinc 5 1, 3) := by decide +kernel
theorem dX3_sumAt_41 : decode cX3_sumAt 41 = .ok (.goto (-35), 3) := by decide +kernel
theorem dX3_sumAt_44 : decode cX3_sumAt 44 = .ok (.iconst 0, 1) := by decide +kernel
theorem dX3_sumAt_45 : decode cX3_sumAt 45 = .ok (.istore 5, 2) := by decide +kernel
theorem dX3_sumAt_47 : decode cX3_sumAt 47 = .ok (.iload 5, 2) := by decide +kernel
theorem dX3_sumAt_49 : decode cX3_sumAt 49 = .ok (.iload_n 2, 1) := by decide +kernel
theorem dX3_sumAt_50 : decode cX3_sumAt 50 = .ok (.if_icmp .ge 39, 3) := by decide +kernel
theorem dX3_sumAt_53 : decode cX3_sumAt 53 = .ok (.aload_n 3, 1) := by decide +kernel
theorem dX3_sumAt_54 : decode cX3_sumAt 54 = .ok (.iload 5, 2) := by decide +kernel
theorem dX3_sumAt_56 : decode cX3_sumAt 56 = .ok (.laload, 1) := by decide +kernel
theorem dX3_sumAt_57 : decode cX3_sumAt 57 = .ok (.iload_n 1, 1) := by decide +kernel
theorem dX3_sumAt_58 : decode cX3_sumAt 58 = .ok (.invokestatic 68, 3) := by decide +kernel
theorem dX3_sumAt_61 : decode cX3_sumAt 61 = .ok (.ifCond .eq 22, 3) := by decide +kernel
theorem dX3_sumAt_64 : decode cX3_sumAt 64 = .ok (.iload 4, 2) := by decide +kernel
theorem dX3_sumAt_66 : decode cX3_sumAt 66 = .ok (.aload_n 0, 1) := by decide +kernel
theorem dX3_sumAt_67 : decode cX3_sumAt 67 = .ok (.getfield 25, 3) := by decide +kernel
theorem dX3_sumAt_70 : decode cX3_sumAt 70 = .ok (.iload_n 2, 1) := by decide +kernel
theorem dX3_sumAt_71 : decode cX3_sumAt 71 = .ok (.aaload, 1) := by decide +kernel
theorem dX3_sumAt_72 : decode cX3_sumAt 72 = .ok (.aload_n 0, 1) := by decide +kernel
theorem dX3_sumAt_73 : decode cX3_sumAt 73 = .ok (.getfield 9, 3) := by decide +kernel
theorem dX3_sumAt_76 : decode cX3_sumAt 76 = .ok (.iload 5, 2) := by decide +kernel
theorem dX3_sumAt_78 : decode cX3_sumAt 78 = .ok (.iadd, 1) := by decide +kernel
theorem dX3_sumAt_79 : decode cX3_sumAt 79 = .ok (.iaload, 1) := by decide +kernel
theorem dX3_sumAt_80 : decode cX3_sumAt 80 = .ok (.iadd, 1) := by decide +kernel
theorem dX3_sumAt_81 : decode cX3_sumAt 81 = .ok (.istore 4, 2) := by decide +kernel
theorem dX3_sumAt_83 : decode cX3_sumAt 83 = .ok (.iinc 5 1, 3) := by decide +kernel
theorem dX3_sumAt_86 : decode cX3_sumAt 86 = .ok (.goto (-39), 3) := by decide +kernel
theorem dX3_sumAt_89 : decode cX3_sumAt 89 = .ok (.iload 4, 2) := by decide +kernel
theorem dX3_sumAt_91 : decode cX3_sumAt 91 = .ok (.ireturn, 1) := by decide +kernel
theorem dX3_depthOf_0 : decode cX3_depthOf 0 = .ok (.iconst 0, 1) := by decide +kernel
theorem dX3_depthOf_1 : decode cX3_depthOf 1 = .ok (.istore_n 2, 1) := by decide +kernel
theorem dX3_depthOf_2 : decode cX3_depthOf 2 = .ok (.iconst 0, 1) := by decide +kernel
theorem dX3_depthOf_3 : decode cX3_depthOf 3 = .ok (.istore_n 3, 1) := by decide +kernel
theorem dX3_depthOf_4 : decode cX3_depthOf 4 = .ok (.iload_n 3, 1) := by decide +kernel
theorem dX3_depthOf_5 : decode cX3_depthOf 5 = .ok (.iload_n 1, 1) := by decide +kernel
theorem dX3_depthOf_6 : decode cX3_depthOf 6 = .ok (.if_icmp .ge 36, 3) := by decide +kernel
theorem dX3_depthOf_9 : decode cX3_depthOf 9 = .ok (.aload_n 0, 1) := by decide +kernel
theorem dX3_depthOf_10 : decode cX3_depthOf 10 = .ok (.getfield 25, 3) := by decide +kernel
theorem dX3_depthOf_13 : decode cX3_depthOf 13 = .ok (.iload_n 1, 1) := by decide +kernel
theorem dX3_depthOf_14 : decode cX3_depthOf 14 = .ok (.aaload, 1) := by decide +kernel
theorem dX3_depthOf_15 : decode cX3_depthOf 15 = .ok (.aload_n 0, 1) := by decide +kernel
theorem dX3_depthOf_16 : decode cX3_depthOf 16 = .ok (.getfield 9, 3) := by decide +kernel
theorem dX3_depthOf_19 : decode cX3_depthOf 19 = .ok (.iload_n 3, 1) := by decide +kernel
theorem dX3_depthOf_20 : decode cX3_depthOf 20 = .ok (.iadd, 1) := by decide +kernel
theorem dX3_depthOf_21 : decode cX3_depthOf 21 = .ok (.iaload, 1) := by decide +kernel
theorem dX3_depthOf_22 : decode cX3_depthOf 22 = .ok (.ifCond .eq 14, 3) := by decide +kernel
theorem dX3_depthOf_25 : decode cX3_depthOf 25 = .ok (.iload_n 2, 1) := by decide +kernel
theorem dX3_depthOf_26 : decode cX3_depthOf 26 = .ok (.aload_n 0, 1) := by decide +kernel
theorem dX3_depthOf_27 : decode cX3_depthOf 27 = .ok (.getfield 19, 3) := by decide +kernel
theorem dX3_depthOf_30 : decode cX3_depthOf 30 = .ok (.iload_n 3, 1) := by decide +kernel
theorem dX3_depthOf_31 : decode cX3_depthOf 31 = .ok (.iaload, 1) := by decide +kernel
theorem dX3_depthOf_32 : decode cX3_depthOf 32 = .ok (.invokestatic 72, 3) := by decide +kernel
theorem dX3_depthOf_35 : decode cX3_depthOf 35 = .ok (.istore_n 2, 1) := by decide +kernel
theorem dX3_depthOf_36 : decode cX3_depthOf 36 = .ok (.iinc 3 1, 3) := by decide +kernel
theorem dX3_depthOf_39 : decode cX3_depthOf 39 = .ok (.goto (-35), 3) := by decide +kernel
theorem dX3_depthOf_42 : decode cX3_depthOf 42 = .ok (.iload_n 2, 1) := by decide +kernel
theorem dX3_depthOf_43 : decode cX3_depthOf 43 = .ok (.iconst 1, 1) := by decide +kernel
theorem dX3_depthOf_44 : decode cX3_depthOf 44 = .ok (.iadd, 1) := by decide +kernel
theorem dX3_depthOf_45 : decode cX3_depthOf 45 = .ok (.ireturn, 1) := by decide +kernel
theorem dX4_init_0 : decode cX4_init 0 = .ok (.aload_n 0, 1) := by decide +kernel
theorem dX4_init_1 : decode cX4_init 1 = .ok (.invokespecial 3, 3) := by decide +kernel
theorem dX4_init_4 : decode cX4_init 4 = .ok (.aload_n 0, 1) := by decide +kernel
theorem dX4_init_5 : decode cX4_init 5 = .ok (.bipush 32, 2) := by decide +kernel
theorem dX4_init_7 : decode cX4_init 7 = .ok (.newarray .int, 2) := by decide +kernel
theorem dX4_init_9 : decode cX4_init 9 = .ok (.putfield 9, 3) := by decide +kernel
theorem dX4_init_12 : decode cX4_init 12 = .ok (.return_, 1) := by decide +kernel
theorem dX4_setWeight_0 : decode cX4_setWeight 0 = .ok (.iload_n 1, 1) := by decide +kernel
theorem dX4_setWeight_1 : decode cX4_setWeight 1 = .ok (.invokestatic 15, 3) := by decide +kernel
theorem dX4_setWeight_4 : decode cX4_setWeight 4 = .ok (.istore_n 3, 1) := by decide +kernel
theorem dX4_setWeight_5 : decode cX4_setWeight 5 = .ok (.iconst 0, 1) := by decide +kernel
theorem dX4_setWeight_6 : decode cX4_setWeight 6 = .ok (.istore 4, 2) := by decide +kernel
theorem dX4_setWeight_8 : decode cX4_setWeight 8 = .ok (.iload 4, 2) := by decide +kernel
theorem dX4_setWeight_10 : decode cX4_setWeight 10 = .ok (.iload_n 3, 1) := by decide +kernel
theorem dX4_setWeight_11 : decode cX4_setWeight 11 = .ok (.if_icmp .ge 27, 3) := by decide +kernel
theorem dX4_setWeight_14 : decode cX4_setWeight 14 = .ok (.aload_n 0, 1) := by decide +kernel
theorem dX4_setWeight_15 : decode cX4_setWeight 15 = .ok (.getfield 9, 3) := by decide +kernel
theorem dX4_setWeight_18 : decode cX4_setWeight 18 = .ok (.iload 4, 2) := by decide +kernel
theorem dX4_setWeight_20 : decode cX4_setWeight 20 = .ok (.iload_n 3, 1) := by decide +kernel
theorem dX4_setWeight_21 : decode cX4_setWeight 21 = .ok (.iadd, 1) := by decide +kernel
theorem dX4_setWeight_22 : decode cX4_setWeight 22 = .ok (.aload_n 0, 1) := by decide +kernel
theorem dX4_setWeight_23 : decode cX4_setWeight 23 = .ok (.getfield 9, 3) := by decide +kernel
theorem dX4_setWeight_26 : decode cX4_setWeight 26 = .ok (.iload 4, 2) := by decide +kernel
theorem dX4_setWeight_28 : decode cX4_setWeight 28 = .ok (.iaload, 1) := by decide +kernel
theorem dX4_setWeight_29 : decode cX4_setWeight 29 = .ok (.iload_n 2, 1) := by decide +kernel
theorem dX4_setWeight_30 : decode cX4_setWeight 30 = .ok (.iadd, 1) := by decide +kernel
theorem dX4_setWeight_31 : decode cX4_setWeight 31 = .ok (.iastore, 1) := by decide +kernel
theorem dX4_setWeight_32 : decode cX4_setWeight 32 = .ok (.iinc 4 1, 3) := by decide +kernel
theorem dX4_setWeight_35 : decode cX4_setWeight 35 = .ok (.goto (-27), 3) := by decide +kernel
theorem dX4_setWeight_38 : decode cX4_setWeight 38 = .ok (.return_, 1) := by decide +kernel
theorem dX4_findEnds_0 : decode cX4_findEnds 0 = .ok (.aload_n 0, 1) := by decide +kernel
theorem dX4_findEnds_1 : decode cX4_findEnds 1 = .ok (.ldc 23, 2) := by decide +kernel
theorem dX4_findEnds_3 : decode cX4_findEnds 3 = .ok (.putfield 24, 3) := by decide +kernel
theorem dX4_findEnds_6 : decode cX4_findEnds 6 = .ok (.aload_n 0, 1) := by decide +kernel
theorem dX4_findEnds_7 : decode cX4_findEnds 7 = .ok (.ldc 28, 2) := by decide +kernel
theorem dX4_findEnds_9 : decode cX4_findEnds 9 = .ok (.putfield 29, 3) := by decide +kernel
theorem dX4_findEnds_12 : decode cX4_findEnds 12 = .ok (.iconst 0, 1) := by decide +kernel
theorem dX4_findEnds_13 : decode cX4_findEnds 13 = .ok (.istore 4, 2) := by decide +kernel
theorem dX4_findEnds_15 : decode cX4_findEnds 15 = .ok (.iload 4, 2) := by decide +kernel
theorem dX4_findEnds_17 : decode cX4_findEnds 17 = .ok (.iload_n 1, 1) := by decide +kernel
theorem dX4_findEnds_18 : decode cX4_findEnds 18 = .ok (.invokestatic 15, 3) := by decide +kernel
theorem dX4_findEnds_21 : decode cX4_findEnds 21 = .ok (.if_icmp .ge 57, 3) := by decide +kernel
theorem dX4_findEnds_24 : decode cX4_findEnds 24 = .ok (.lload_n 2, 1) := by decide +kernel
theorem dX4_findEnds_25 : decode cX4_findEnds 25 = .ok (.iload 4, 2) := by decide +kernel
theorem dX4_findEnds_27 : decode cX4_findEnds 27 = .ok (.invokestatic 32, 3) := by decide +kernel
theorem dX4_findEnds_30 : decode cX4_findEnds 30 = .ok (.ifCond .eq 24, 3) := by decide +kernel
theorem dX4_findEnds_33 : decode cX4_findEnds 33 = .ok (.aload_n 0, 1) := by decide +kernel
theorem dX4_findEnds_34 : decode cX4_findEnds 34 = .ok (.aload_n 0, 1) := by decide +kernel
theorem dX4_findEnds_35 : decode cX4_findEnds 35 = .ok (.getfield 24, 3) := by decide +kernel
theorem dX4_findEnds_38 : decode cX4_findEnds 38 = .ok (.aload_n 0, 1) := by decide +kernel
theorem dX4_findEnds_39 : decode cX4_findEnds 39 = .ok (.getfield 9, 3) := by decide +kernel
theorem dX4_findEnds_42 : decode cX4_findEnds 42 = .ok (.iload 4, 2) := by decide +kernel
theorem dX4_findEnds_44 : decode cX4_findEnds 44 = .ok (.iaload, 1) := by decide +kernel
theorem dX4_findEnds_45 : decode cX4_findEnds 45 = .ok (.invokestatic 36, 3) := by decide +kernel
theorem dX4_findEnds_48 : decode cX4_findEnds 48 = .ok (.putfield 24, 3) := by decide +kernel
theorem dX4_findEnds_51 : decode cX4_findEnds 51 = .ok (.goto 21, 3) := by decide +kernel
theorem dX4_findEnds_54 : decode cX4_findEnds 54 = .ok (.aload_n 0, 1) := by decide +kernel
theorem dX4_findEnds_55 : decode cX4_findEnds 55 = .ok (.aload_n 0, 1) := by decide +kernel
theorem dX4_findEnds_56 : decode cX4_findEnds 56 = .ok (.getfield 29, 3) := by decide +kernel
theorem dX4_findEnds_59 : decode cX4_findEnds 59 = .ok (.aload_n 0, 1) := by decide +kernel
theorem dX4_findEnds_60 : decode cX4_findEnds 60 = .ok (.getfield 9, 3) := by decide +kernel
theorem dX4_findEnds_63 : decode cX4_findEnds 63 = .ok (.iload 4, 2) := by decide +kernel
theorem dX4_findEnds_65 : decode cX4_findEnds 65 = .ok (.iaload, 1) := by decide +kernel
theorem dX4_findEnds_66 : decode cX4_findEnds 66 = .ok (.invokestatic 42, 3) := by decide +kernel
theorem dX4_findEnds_69 : decode cX4_findEnds 69 = .ok (.putfield 29, 3) := by decide +kernel
theorem dX4_findEnds_72 : decode cX4_findEnds 72 = .ok (.iinc 4 1, 3) := by decide +kernel
theorem dX4_findEnds_75 : decode cX4_findEnds 75 = .ok (.goto (-60), 3) := by decide +kernel
theorem dX4_findEnds_78 : decode cX4_findEnds 78 = .ok (.return_, 1) := by decide +kernel
theorem dX5_number_0 : decode cX5_number 0 = .ok (.iconst 1, 1) := by decide +kernel
theorem dX5_number_1 : decode cX5_number 1 = .ok (.iload_n 0, 1) := by decide +kernel
theorem dX5_number_2 : decode cX5_number 2 = .ok (.ishl, 1) := by decide +kernel
theorem dX5_number_3 : decode cX5_number 3 = .ok (.ireturn, 1) := by decide +kernel
theorem dX5_all_0 : decode cX5_all 0 = .ok (.lconst 1, 1) := by decide +kernel
theorem dX5_all_1 : decode cX5_all 1 = .ok (.iload_n 0, 1) := by decide +kernel
theorem dX5_all_2 : decode cX5_all 2 = .ok (.invokestatic 7, 3) := by decide +kernel
theorem dX5_all_5 : decode cX5_all 5 = .ok (.lshl, 1) := by decide +kernel
theorem dX5_all_6 : decode cX5_all 6 = .ok (.lconst 1, 1) := by decide +kernel
theorem dX5_all_7 : decode cX5_all 7 = .ok (.lsub, 1) := by decide +kernel
theorem dX5_all_8 : decode cX5_all 8 = .ok (.lreturn, 1) := by decide +kernel
theorem dX5_isOne_0 : decode cX5_isOne 0 = .ok (.lload_n 0, 1) := by decide +kernel
theorem dX5_isOne_1 : decode cX5_isOne 1 = .ok (.iload_n 2, 1) := by decide +kernel
theorem dX5_isOne_2 : decode cX5_isOne 2 = .ok (.lushr, 1) := by decide +kernel
theorem dX5_isOne_3 : decode cX5_isOne 3 = .ok (.lconst 1, 1) := by decide +kernel
theorem dX5_isOne_4 : decode cX5_isOne 4 = .ok (.land, 1) := by decide +kernel
theorem dX5_isOne_5 : decode cX5_isOne 5 = .ok (.lconst 0, 1) := by decide +kernel
theorem dX5_isOne_6 : decode cX5_isOne 6 = .ok (.lcmp, 1) := by decide +kernel
theorem dX5_isOne_7 : decode cX5_isOne 7 = .ok (.ifCond .eq 7, 3) := by decide +kernel
theorem dX5_isOne_10 : decode cX5_isOne 10 = .ok (.iconst 1, 1) := by decide +kernel
theorem dX5_isOne_11 : decode cX5_isOne 11 = .ok (.goto 4, 3) := by decide +kernel
theorem dX5_isOne_14 : decode cX5_isOne 14 = .ok (.iconst 0, 1) := by decide +kernel
theorem dX5_isOne_15 : decode cX5_isOne 15 = .ok (.ireturn, 1) := by decide +kernel
theorem dX5_hasInput_0 : decode cX5_hasInput 0 = .ok (.iload_n 0, 1) := by decide +kernel
theorem dX5_hasInput_1 : decode cX5_hasInput 1 = .ok (.iload_n 1, 1) := by decide +kernel
theorem dX5_hasInput_2 : decode cX5_hasInput 2 = .ok (.ishr, 1) := by decide +kernel
theorem dX5_hasInput_3 : decode cX5_hasInput 3 = .ok (.iconst 1, 1) := by decide +kernel
theorem dX5_hasInput_4 : decode cX5_hasInput 4 = .ok (.iand, 1) := by decide +kernel
theorem dX5_hasInput_5 : decode cX5_hasInput 5 = .ok (.ifCond .eq 7, 3) := by decide +kernel
theorem dX5_hasInput_8 : decode cX5_hasInput 8 = .ok (.iconst 1, 1) := by decide +kernel
theorem dX5_hasInput_9 : decode cX5_hasInput 9 = .ok (.goto 4, 3) := by decide +kernel
theorem dX5_hasInput_12 : decode cX5_hasInput 12 = .ok (.iconst 0, 1) := by decide +kernel
theorem dX5_hasInput_13 : decode cX5_hasInput 13 = .ok (.ireturn, 1) := by decide +kernel
theorem dX5_onesWith_0 : decode cX5_onesWith 0 = .ok (.lload_n 0, 1) := by decide +kernel
theorem dX5_onesWith_1 : decode cX5_onesWith 1 = .ok (.getstatic 13, 3) := by decide +kernel
theorem dX5_onesWith_4 : decode cX5_onesWith 4 = .ok (.iload_n 2, 1) := by decide +kernel
theorem dX5_onesWith_5 : decode cX5_onesWith 5 = .ok (.laload, 1) := by decide +kernel
theorem dX5_onesWith_6 : decode cX5_onesWith 6 = .ok (.land, 1) := by decide +kernel
theorem dX5_onesWith_7 : decode cX5_onesWith 7 = .ok (.invokestatic 17, 3) := by decide +kernel
theorem dX5_onesWith_10 : decode cX5_onesWith 10 = .ok (.ireturn, 1) := by decide +kernel
theorem dX5_inputTurned_0 : decode cX5_inputTurned 0 = .ok (.getstatic 13, 3) := by decide +kernel
theorem dX5_inputTurned_3 : decode cX5_inputTurned 3 = .ok (.iload_n 2, 1) := by decide +kernel
theorem dX5_inputTurned_4 : decode cX5_inputTurned 4 = .ok (.laload, 1) := by decide +kernel
theorem dX5_inputTurned_5 : decode cX5_inputTurned 5 = .ok (.lstore_n 3, 1) := by decide +kernel
theorem dX5_inputTurned_6 : decode cX5_inputTurned 6 = .ok (.iconst 1, 1) := by decide +kernel
theorem dX5_inputTurned_7 : decode cX5_inputTurned 7 = .ok (.iload_n 2, 1) := by decide +kernel
theorem dX5_inputTurned_8 : decode cX5_inputTurned 8 = .ok (.ishl, 1) := by decide +kernel
theorem dX5_inputTurned_9 : decode cX5_inputTurned 9 = .ok (.istore 5, 2) := by decide +kernel
theorem dX5_inputTurned_11 : decode cX5_inputTurned 11 = .ok (.lload_n 0, 1) := by decide +kernel
theorem dX5_inputTurned_12 : decode cX5_inputTurned 12 = .ok (.lload_n 3, 1) := by decide +kernel
theorem dX5_inputTurned_13 : decode cX5_inputTurned 13 = .ok (.land, 1) := by decide +kernel
theorem dX5_inputTurned_14 : decode cX5_inputTurned 14 = .ok (.iload 5, 2) := by decide +kernel
theorem dX5_inputTurned_16 : decode cX5_inputTurned 16 = .ok (.lushr, 1) := by decide +kernel
theorem dX5_inputTurned_17 : decode cX5_inputTurned 17 = .ok (.lload_n 0, 1) := by decide +kernel
theorem dX5_inputTurned_18 : decode cX5_inputTurned 18 = .ok (.iload 5, 2) := by decide +kernel
theorem dX5_inputTurned_20 : decode cX5_inputTurned 20 = .ok (.lshl, 1) := by decide +kernel
theorem dX5_inputTurned_21 : decode cX5_inputTurned 21 = .ok (.lload_n 3, 1) := by decide +kernel
theorem dX5_inputTurned_22 : decode cX5_inputTurned 22 = .ok (.land, 1) := by decide +kernel
theorem dX5_inputTurned_23 : decode cX5_inputTurned 23 = .ok (.lor, 1) := by decide +kernel
theorem dX5_inputTurned_24 : decode cX5_inputTurned 24 = .ok (.lreturn, 1) := by decide +kernel
theorem dX5_inputsSwapped_0 : decode cX5_inputsSwapped 0 = .ok (.getstatic 13, 3) := by decide +kernel
theorem dX5_inputsSwapped_3 : decode cX5_inputsSwapped 3 = .ok (.iload_n 2, 1) := by decide +kernel
theorem dX5_inputsSwapped_4 : decode cX5_inputsSwapped 4 = .ok (.laload, 1) := by decide +kernel
theorem dX5_inputsSwapped_5 : decode cX5_inputsSwapped 5 = .ok (.getstatic 13, 3) := by decide +kernel
theorem dX5_inputsSwapped_8 : decode cX5_inputsSwapped 8 = .ok (.iload_n 3, 1) := by decide +kernel
theorem dX5_inputsSwapped_9 : decode cX5_inputsSwapped 9 = .ok (.laload, 1) := by decide +kernel
theorem dX5_inputsSwapped_10 : decode cX5_inputsSwapped 10 = .ok (.ldc2_w 23, 3) := by decide +kernel
theorem dX5_inputsSwapped_13 : decode cX5_inputsSwapped 13 = .ok (.lxor, 1) := by decide +kernel
theorem dX5_inputsSwapped_14 : decode cX5_inputsSwapped 14 = .ok (.land, 1) := by decide +kernel
theorem dX5_inputsSwapped_15 : decode cX5_inputsSwapped 15 = .ok (.lstore 4, 2) := by decide +kernel
theorem dX5_inputsSwapped_17 : decode cX5_inputsSwapped 17 = .ok (.getstatic 13, 3) := by decide +kernel
theorem dX5_inputsSwapped_20 : decode cX5_inputsSwapped 20 = .ok (.iload_n 3, 1) := by decide +kernel
theorem dX5_inputsSwapped_21 : decode cX5_inputsSwapped 21 = .ok (.laload, 1) := by decide +kernel
theorem dX5_inputsSwapped_22 : decode cX5_inputsSwapped 22 = .ok (.getstatic 13, 3) := by decide +kernel
theorem dX5_inputsSwapped_25 : decode cX5_inputsSwapped 25 = .ok (.iload_n 2, 1) := by decide +kernel
theorem dX5_inputsSwapped_26 : decode cX5_inputsSwapped 26 = .ok (.laload, 1) := by decide +kernel
theorem dX5_inputsSwapped_27 : decode cX5_inputsSwapped 27 = .ok (.ldc2_w 23, 3) := by decide +kernel
theorem dX5_inputsSwapped_30 : decode cX5_inputsSwapped 30 = .ok (.lxor, 1) := by decide +kernel
theorem dX5_inputsSwapped_31 : decode cX5_inputsSwapped 31 = .ok (.land, 1) := by decide +kernel
theorem dX5_inputsSwapped_32 : decode cX5_inputsSwapped 32 = .ok (.lstore 6, 2) := by decide +kernel
theorem dX5_inputsSwapped_34 : decode cX5_inputsSwapped 34 = .ok (.iconst 1, 1) := by decide +kernel
theorem dX5_inputsSwapped_35 : decode cX5_inputsSwapped 35 = .ok (.iload_n 3, 1) := by decide +kernel
theorem dX5_inputsSwapped_36 : decode cX5_inputsSwapped 36 = .ok (.ishl, 1) := by decide +kernel
theorem dX5_inputsSwapped_37 : decode cX5_inputsSwapped 37 = .ok (.iconst 1, 1) := by decide +kernel
theorem dX5_inputsSwapped_38 : decode cX5_inputsSwapped 38 = .ok (.iload_n 2, 1) := by decide +kernel
theorem dX5_inputsSwapped_39 : decode cX5_inputsSwapped 39 = .ok (.ishl, 1) := by decide +kernel
theorem dX5_inputsSwapped_40 : decode cX5_inputsSwapped 40 = .ok (.isub, 1) := by decide +kernel
theorem dX5_inputsSwapped_41 : decode cX5_inputsSwapped 41 = .ok (.istore 8, 2) := by decide +kernel
theorem dX5_inputsSwapped_43 : decode cX5_inputsSwapped 43 = .ok (.lload_n 0, 1) := by decide +kernel
theorem dX5_inputsSwapped_44 : decode cX5_inputsSwapped 44 = .ok (.lload 4, 2) := by decide +kernel
theorem dX5_inputsSwapped_46 : decode cX5_inputsSwapped 46 = .ok (.lload 6, 2) := by decide +kernel
theorem dX5_inputsSwapped_48 : decode cX5_inputsSwapped 48 = .ok (.lor, 1) := by decide +kernel
theorem dX5_inputsSwapped_49 : decode cX5_inputsSwapped 49 = .ok (.ldc2_w 23, 3) := by decide +kernel
theorem dX5_inputsSwapped_52 : decode cX5_inputsSwapped 52 = .ok (.lxor, 1) := by decide +kernel
theorem dX5_inputsSwapped_53 : decode cX5_inputsSwapped 53 = .ok (.land, 1) := by decide +kernel
theorem dX5_inputsSwapped_54 : decode cX5_inputsSwapped 54 = .ok (.lload_n 0, 1) := by decide +kernel
theorem dX5_inputsSwapped_55 : decode cX5_inputsSwapped 55 = .ok (.lload 4, 2) := by decide +kernel
theorem dX5_inputsSwapped_57 : decode cX5_inputsSwapped 57 = .ok (.land, 1) := by decide +kernel
theorem dX5_inputsSwapped_58 : decode cX5_inputsSwapped 58 = .ok (.iload 8, 2) := by decide +kernel
theorem dX5_inputsSwapped_60 : decode cX5_inputsSwapped 60 = .ok (.lshl, 1) := by decide +kernel
theorem dX5_inputsSwapped_61 : decode cX5_inputsSwapped 61 = .ok (.lor, 1) := by decide +kernel
theorem dX5_inputsSwapped_62 : decode cX5_inputsSwapped 62 = .ok (.lload_n 0, 1) := by decide +kernel
theorem dX5_inputsSwapped_63 : decode cX5_inputsSwapped 63 = .ok (.lload 6, 2) := by decide +kernel
theorem dX5_inputsSwapped_65 : decode cX5_inputsSwapped 65 = .ok (.land, 1) := by decide +kernel
theorem dX5_inputsSwapped_66 : decode cX5_inputsSwapped 66 = .ok (.iload 8, 2) := by decide +kernel
theorem dX5_inputsSwapped_68 : decode cX5_inputsSwapped 68 = .ok (.lushr, 1) := by decide +kernel
theorem dX5_inputsSwapped_69 : decode cX5_inputsSwapped 69 = .ok (.lor, 1) := by decide +kernel
theorem dX5_inputsSwapped_70 : decode cX5_inputsSwapped 70 = .ok (.lreturn, 1) := by decide +kernel
theorem dX5_inputHeld_0 : decode cX5_inputHeld 0 = .ok (.iload 4, 2) := by decide +kernel
theorem dX5_inputHeld_2 : decode cX5_inputHeld 2 = .ok (.ifCond .eq 9, 3) := by decide +kernel
theorem dX5_inputHeld_5 : decode cX5_inputHeld 5 = .ok (.iconst 1, 1) := by decide +kernel
theorem dX5_inputHeld_6 : decode cX5_inputHeld 6 = .ok (.iload_n 3, 1) := by decide +kernel
theorem dX5_inputHeld_7 : decode cX5_inputHeld 7 = .ok (.ishl, 1) := by decide +kernel
theorem dX5_inputHeld_8 : decode cX5_inputHeld 8 = .ok (.goto 4, 3) := by decide +kernel
theorem dX5_inputHeld_11 : decode cX5_inputHeld 11 = .ok (.iconst 0, 1) := by decide +kernel
theorem dX5_inputHeld_12 : decode cX5_inputHeld 12 = .ok (.istore 5, 2) := by decide +kernel
theorem dX5_inputHeld_14 : decode cX5_inputHeld 14 = .ok (.iconst 1, 1) := by decide +kernel
theorem dX5_inputHeld_15 : decode cX5_inputHeld 15 = .ok (.iload_n 3, 1) := by decide +kernel
theorem dX5_inputHeld_16 : decode cX5_inputHeld 16 = .ok (.ishl, 1) := by decide +kernel
theorem dX5_inputHeld_17 : decode cX5_inputHeld 17 = .ok (.iconst 1, 1) := by decide +kernel
theorem dX5_inputHeld_18 : decode cX5_inputHeld 18 = .ok (.isub, 1) := by decide +kernel
theorem dX5_inputHeld_19 : decode cX5_inputHeld 19 = .ok (.istore 6, 2) := by decide +kernel
theorem dX5_inputHeld_21 : decode cX5_inputHeld 21 = .ok (.lconst 0, 1) := by decide +kernel
theorem dX5_inputHeld_22 : decode cX5_inputHeld 22 = .ok (.lstore 7, 2) := by decide +kernel
theorem dX5_inputHeld_24 : decode cX5_inputHeld 24 = .ok (.iconst 0, 1) := by decide +kernel
theorem dX5_inputHeld_25 : decode cX5_inputHeld 25 = .ok (.istore 9, 2) := by decide +kernel
theorem dX5_inputHeld_27 : decode cX5_inputHeld 27 = .ok (.iload 9, 2) := by decide +kernel
theorem dX5_inputHeld_29 : decode cX5_inputHeld 29 = .ok (.iload_n 0, 1) := by decide +kernel
theorem dX5_inputHeld_30 : decode cX5_inputHeld 30 = .ok (.invokestatic 7, 3) := by decide +kernel
theorem dX5_inputHeld_33 : decode cX5_inputHeld 33 = .ok (.if_icmp .ge 47, 3) := by decide +kernel
theorem dX5_inputHeld_36 : decode cX5_inputHeld 36 = .ok (.iload 9, 2) := by decide +kernel
theorem dX5_inputHeld_38 : decode cX5_inputHeld 38 = .ok (.iload 6, 2) := by decide +kernel
theorem dX5_inputHeld_40 : decode cX5_inputHeld 40 = .ok (.iconst (-1), 1) := by decide +kernel
theorem dX5_inputHeld_41 : decode cX5_inputHeld 41 = .ok (.ixor, 1) := by decide +kernel
theorem dX5_inputHeld_42 : decode cX5_inputHeld 42 = .ok (.iand, 1) := by decide +kernel
theorem dX5_inputHeld_43 : decode cX5_inputHeld 43 = .ok (.iconst 1, 1) := by decide +kernel
theorem dX5_inputHeld_44 : decode cX5_inputHeld 44 = .ok (.ishl, 1) := by decide +kernel
theorem dX5_inputHeld_45 : decode cX5_inputHeld 45 = .ok (.iload 5, 2) := by decide +kernel
theorem dX5_inputHeld_47 : decode cX5_inputHeld 47 = .ok (.ior, 1) := by decide +kernel
theorem dX5_inputHeld_48 : decode cX5_inputHeld 48 = .ok (.iload 9, 2) := by decide +kernel
theorem dX5_inputHeld_50 : decode cX5_inputHeld 50 = .ok (.iload 6, 2) := by decide +kernel
theorem dX5_inputHeld_52 : decode cX5_inputHeld 52 = .ok (.iand, 1) := by decide +kernel
theorem dX5_inputHeld_53 : decode cX5_inputHeld 53 = .ok (.ior, 1) := by decide +kernel
theorem dX5_inputHeld_54 : decode cX5_inputHeld 54 = .ok (.istore 10, 2) := by decide +kernel
theorem dX5_inputHeld_56 : decode cX5_inputHeld 56 = .ok (.lload_n 1, 1) := by decide +kernel
theorem dX5_inputHeld_57 : decode cX5_inputHeld 57 = .ok (.iload 10, 2) := by decide +kernel
theorem dX5_inputHeld_59 : decode cX5_inputHeld 59 = .ok (.invokestatic 25, 3) := by decide +kernel
theorem dX5_inputHeld_62 : decode cX5_inputHeld 62 = .ok (.ifCond .eq 12, 3) := by decide +kernel
theorem dX5_inputHeld_65 : decode cX5_inputHeld 65 = .ok (.lload 7, 2) := by decide +kernel
theorem dX5_inputHeld_67 : decode cX5_inputHeld 67 = .ok (.lconst 1, 1) := by decide +kernel
theorem dX5_inputHeld_68 : decode cX5_inputHeld 68 = .ok (.iload 9, 2) := by decide +kernel
theorem dX5_inputHeld_70 : decode cX5_inputHeld 70 = .ok (.lshl, 1) := by decide +kernel
theorem dX5_inputHeld_71 : decode cX5_inputHeld 71 = .ok (.lor, 1) := by decide +kernel
theorem dX5_inputHeld_72 : decode cX5_inputHeld 72 = .ok (.lstore 7, 2) := by decide +kernel
theorem dX5_inputHeld_74 : decode cX5_inputHeld 74 = .ok (.iinc 9 1, 3) := by decide +kernel
theorem dX5_inputHeld_77 : decode cX5_inputHeld 77 = .ok (.goto (-50), 3) := by decide +kernel
theorem dX5_inputHeld_80 : decode cX5_inputHeld 80 = .ok (.lload 7, 2) := by decide +kernel
theorem dX5_inputHeld_82 : decode cX5_inputHeld 82 = .ok (.lreturn, 1) := by decide +kernel
theorem dX6_init_0 : decode cX6_init 0 = .ok (.aload_n 0, 1) := by decide +kernel
theorem dX6_init_1 : decode cX6_init 1 = .ok (.invokespecial 3, 3) := by decide +kernel
theorem dX6_init_4 : decode cX6_init 4 = .ok (.aload_n 0, 1) := by decide +kernel
theorem dX6_init_5 : decode cX6_init 5 = .ok (.iconst 4, 1) := by decide +kernel
theorem dX6_init_6 : decode cX6_init 6 = .ok (.newarray .int, 2) := by decide +kernel
theorem dX6_init_8 : decode cX6_init 8 = .ok (.putfield 9, 3) := by decide +kernel
theorem dX6_init_11 : decode cX6_init 11 = .ok (.return_, 1) := by decide +kernel
theorem dX6_find_0 : decode cX6_find 0 = .ok (.iconst 0, 1) := by decide +kernel
theorem dX6_find_1 : decode cX6_find 1 = .ok (.istore 4, 2) := by decide +kernel
theorem dX6_find_3 : decode cX6_find 3 = .ok (.iload 4, 2) := by decide +kernel
theorem dX6_find_5 : decode cX6_find 5 = .ok (.iload_n 1, 1) := by decide +kernel
theorem dX6_find_6 : decode cX6_find 6 = .ok (.invokestatic 15, 3) := by decide +kernel
theorem dX6_find_9 : decode cX6_find 9 = .ok (.if_icmp .ge 31, 3) := by decide +kernel
theorem dX6_find_12 : decode cX6_find 12 = .ok (.lload_n 2, 1) := by decide +kernel
theorem dX6_find_13 : decode cX6_find 13 = .ok (.iload 4, 2) := by decide +kernel
theorem dX6_find_15 : decode cX6_find 15 = .ok (.invokestatic 21, 3) := by decide +kernel
theorem dX6_find_18 : decode cX6_find 18 = .ok (.ifCond .eq 16, 3) := by decide +kernel
theorem dX6_find_21 : decode cX6_find 21 = .ok (.aload_n 0, 1) := by decide +kernel
theorem dX6_find_22 : decode cX6_find 22 = .ok (.iload_n 1, 1) := by decide +kernel
theorem dX6_find_23 : decode cX6_find 23 = .ok (.lload_n 2, 1) := by decide +kernel
theorem dX6_find_24 : decode cX6_find 24 = .ok (.iload 4, 2) := by decide +kernel
theorem dX6_find_26 : decode cX6_find 26 = .ok (.invokevirtual 25, 3) := by decide +kernel
theorem dX6_find_29 : decode cX6_find 29 = .ok (.ifCond .eq 5, 3) := by decide +kernel
theorem dX6_find_32 : decode cX6_find 32 = .ok (.iconst 1, 1) := by decide +kernel
theorem dX6_find_33 : decode cX6_find 33 = .ok (.ireturn, 1) := by decide +kernel
theorem dX6_find_34 : decode cX6_find 34 = .ok (.iinc 4 1, 3) := by decide +kernel
theorem dX6_find_37 : decode cX6_find 37 = .ok (.goto (-34), 3) := by decide +kernel
theorem dX6_find_40 : decode cX6_find 40 = .ok (.iconst 0, 1) := by decide +kernel
theorem dX6_find_41 : decode cX6_find 41 = .ok (.ireturn, 1) := by decide +kernel
theorem dX6_findSecond_0 : decode cX6_findSecond 0 = .ok (.iload 4, 2) := by decide +kernel
theorem dX6_findSecond_2 : decode cX6_findSecond 2 = .ok (.iconst 1, 1) := by decide +kernel
theorem dX6_findSecond_3 : decode cX6_findSecond 3 = .ok (.iadd, 1) := by decide +kernel
theorem dX6_findSecond_4 : decode cX6_findSecond 4 = .ok (.istore 5, 2) := by decide +kernel
theorem dX6_findSecond_6 : decode cX6_findSecond 6 = .ok (.iload 5, 2) := by decide +kernel
theorem dX6_findSecond_8 : decode cX6_findSecond 8 = .ok (.iload_n 1, 1) := by decide +kernel
theorem dX6_findSecond_9 : decode cX6_findSecond 9 = .ok (.invokestatic 15, 3) := by decide +kernel
theorem dX6_findSecond_12 : decode cX6_findSecond 12 = .ok (.if_icmp .ge 32, 3) := by decide +kernel
theorem dX6_findSecond_15 : decode cX6_findSecond 15 = .ok (.lload_n 2, 1) := by decide +kernel
theorem dX6_findSecond_16 : decode cX6_findSecond 16 = .ok (.iload 5, 2) := by decide +kernel
theorem dX6_findSecond_18 : decode cX6_findSecond 18 = .ok (.invokestatic 21, 3) := by decide +kernel
theorem dX6_findSecond_21 : decode cX6_findSecond 21 = .ok (.ifCond .eq 17, 3) := by decide +kernel
theorem dX6_findSecond_24 : decode cX6_findSecond 24 = .ok (.aload_n 0, 1) := by decide +kernel
theorem dX6_findSecond_25 : decode cX6_findSecond 25 = .ok (.lload_n 2, 1) := by decide +kernel
theorem dX6_findSecond_26 : decode cX6_findSecond 26 = .ok (.iload 4, 2) := by decide +kernel
theorem dX6_findSecond_28 : decode cX6_findSecond 28 = .ok (.iload 5, 2) := by decide +kernel
theorem dX6_findSecond_30 : decode cX6_findSecond 30 = .ok (.invokevirtual 29, 3) := by decide +kernel
theorem dX6_findSecond_33 : decode cX6_findSecond 33 = .ok (.ifCond .eq 5, 3) := by decide +kernel
theorem dX6_findSecond_36 : decode cX6_findSecond 36 = .ok (.iconst 1, 1) := by decide +kernel
theorem dX6_findSecond_37 : decode cX6_findSecond 37 = .ok (.ireturn, 1) := by decide +kernel
theorem dX6_findSecond_38 : decode cX6_findSecond 38 = .ok (.iinc 5 1, 3) := by decide +kernel
theorem dX6_findSecond_41 : decode cX6_findSecond 41 = .ok (.goto (-35), 3) := by decide +kernel
theorem dX6_findSecond_44 : decode cX6_findSecond 44 = .ok (.iconst 0, 1) := by decide +kernel
theorem dX6_findSecond_45 : decode cX6_findSecond 45 = .ok (.ireturn, 1) := by decide +kernel
theorem dX6_findZeros_0 : decode cX6_findZeros 0 = .ok (.iload_n 3, 1) := by decide +kernel
theorem dX6_findZeros_1 : decode cX6_findZeros 1 = .ok (.iload 4, 2) := by decide +kernel
theorem dX6_findZeros_3 : decode cX6_findZeros 3 = .ok (.iand, 1) := by decide +kernel
theorem dX6_findZeros_4 : decode cX6_findZeros 4 = .ok (.istore 5, 2) := by decide +kernel
theorem dX6_findZeros_6 : decode cX6_findZeros 6 = .ok (.iload_n 3, 1) := by decide +kernel
theorem dX6_findZeros_7 : decode cX6_findZeros 7 = .ok (.iload 4, 2) := by decide +kernel
theorem dX6_findZeros_9 : decode cX6_findZeros 9 = .ok (.ior, 1) := by decide +kernel
theorem dX6_findZeros_10 : decode cX6_findZeros 10 = .ok (.istore 6, 2) := by decide +kernel
theorem dX6_findZeros_12 : decode cX6_findZeros 12 = .ok (.iload 5, 2) := by decide +kernel
theorem dX6_findZeros_14 : decode cX6_findZeros 14 = .ok (.istore 7, 2) := by decide +kernel
theorem dX6_findZeros_16 : decode cX6_findZeros 16 = .ok (.iload 7, 2) := by decide +kernel
theorem dX6_findZeros_18 : decode cX6_findZeros 18 = .ok (.iload 6, 2) := by decide +kernel
theorem dX6_findZeros_20 : decode cX6_findZeros 20 = .ok (.if_icmp .gt 111, 3) := by decide +kernel
theorem dX6_findZeros_23 : decode cX6_findZeros 23 = .ok (.iload 5, 2) := by decide +kernel
theorem dX6_findZeros_25 : decode cX6_findZeros 25 = .ok (.iload 6, 2) := by decide +kernel
theorem dX6_findZeros_27 : decode cX6_findZeros 27 = .ok (.iadd, 1) := by decide +kernel
theorem dX6_findZeros_28 : decode cX6_findZeros 28 = .ok (.iload 7, 2) := by decide +kernel
theorem dX6_findZeros_30 : decode cX6_findZeros 30 = .ok (.isub, 1) := by decide +kernel
theorem dX6_findZeros_31 : decode cX6_findZeros 31 = .ok (.istore 8, 2) := by decide +kernel
theorem dX6_findZeros_33 : decode cX6_findZeros 33 = .ok (.iload 7, 2) := by decide +kernel
theorem dX6_findZeros_35 : decode cX6_findZeros 35 = .ok (.iload 8, 2) := by decide +kernel
theorem dX6_findZeros_37 : decode cX6_findZeros 37 = .ok (.if_icmp .le 5, 3) := by decide +kernel
theorem dX6_findZeros_40 : decode cX6_findZeros 40 = .ok (.iconst 0, 1) := by decide +kernel
theorem dX6_findZeros_41 : decode cX6_findZeros 41 = .ok (.ireturn, 1) := by decide +kernel
theorem dX6_findZeros_42 : decode cX6_findZeros 42 = .ok (.iload 7, 2) := by decide +kernel
theorem dX6_findZeros_44 : decode cX6_findZeros 44 = .ok (.iload 5, 2) := by decide +kernel
theorem dX6_findZeros_46 : decode cX6_findZeros 46 = .ok (.iand, 1) := by decide +kernel
theorem dX6_findZeros_47 : decode cX6_findZeros 47 = .ok (.iload 5, 2) := by decide +kernel
theorem dX6_findZeros_49 : decode cX6_findZeros 49 = .ok (.if_icmp .ne 17, 3) := by decide +kernel
theorem dX6_findZeros_52 : decode cX6_findZeros 52 = .ok (.iload 7, 2) := by decide +kernel
theorem dX6_findZeros_54 : decode cX6_findZeros 54 = .ok (.iload 6, 2) := by decide +kernel
theorem dX6_findZeros_56 : decode cX6_findZeros 56 = .ok (.ior, 1) := by decide +kernel
theorem dX6_findZeros_57 : decode cX6_findZeros 57 = .ok (.iload 6, 2) := by decide +kernel
theorem dX6_findZeros_59 : decode cX6_findZeros 59 = .ok (.if_icmp .ne 7, 3) := by decide +kernel
theorem dX6_findZeros_62 : decode cX6_findZeros 62 = .ok (.iconst 1, 1) := by decide +kernel
theorem dX6_findZeros_63 : decode cX6_findZeros 63 = .ok (.goto 4, 3) := by decide +kernel
theorem dX6_findZeros_66 : decode cX6_findZeros 66 = .ok (.iconst 0, 1) := by decide +kernel
theorem dX6_findZeros_67 : decode cX6_findZeros 67 = .ok (.istore 9, 2) := by decide +kernel
theorem dX6_findZeros_69 : decode cX6_findZeros 69 = .ok (.iload 9, 2) := by decide +kernel
theorem dX6_findZeros_71 : decode cX6_findZeros 71 = .ok (.ifCond .eq 54, 3) := by decide +kernel
theorem dX6_findZeros_74 : decode cX6_findZeros 74 = .ok (.lload_n 1, 1) := by decide +kernel
theorem dX6_findZeros_75 : decode cX6_findZeros 75 = .ok (.iload 7, 2) := by decide +kernel
theorem dX6_findZeros_77 : decode cX6_findZeros 77 = .ok (.invokestatic 21, 3) := by decide +kernel
theorem dX6_findZeros_80 : decode cX6_findZeros 80 = .ok (.ifCond .ne 45, 3) := by decide +kernel
theorem dX6_findZeros_83 : decode cX6_findZeros 83 = .ok (.lload_n 1, 1) := by decide +kernel
theorem dX6_findZeros_84 : decode cX6_findZeros 84 = .ok (.iload 8, 2) := by decide +kernel
theorem dX6_findZeros_86 : decode cX6_findZeros 86 = .ok (.invokestatic 21, 3) := by decide +kernel
theorem dX6_findZeros_89 : decode cX6_findZeros 89 = .ok (.ifCond .ne 36, 3) := by decide +kernel
theorem dX6_findZeros_92 : decode cX6_findZeros 92 = .ok (.aload_n 0, 1) := by decide +kernel
theorem dX6_findZeros_93 : decode cX6_findZeros 93 = .ok (.getfield 9, 3) := by decide +kernel
theorem dX6_findZeros_96 : decode cX6_findZeros 96 = .ok (.iconst 0, 1) := by decide +kernel
theorem dX6_findZeros_97 : decode cX6_findZeros 97 = .ok (.iload_n 3, 1) := by decide +kernel
theorem dX6_findZeros_98 : decode cX6_findZeros 98 = .ok (.iastore, 1) := by decide +kernel
theorem dX6_findZeros_99 : decode cX6_findZeros 99 = .ok (.aload_n 0, 1) := by decide +kernel
theorem dX6_findZeros_100 : decode cX6_findZeros 100 = .ok (.getfield 9, 3) := by decide +kernel
theorem dX6_findZeros_103 : decode cX6_findZeros 103 = .ok (.iconst 1, 1) := by decide +kernel
theorem dX6_findZeros_104 : decode cX6_findZeros 104 = .ok (.iload 4, 2) := by decide +kernel
theorem dX6_findZeros_106 : decode cX6_findZeros 106 = .ok (.iastore, 1) := by decide +kernel
theorem dX6_findZeros_107 : decode cX6_findZeros 107 = .ok (.aload_n 0, 1) := by decide +kernel
theorem dX6_findZeros_108 : decode cX6_findZeros 108 = .ok (.getfield 9, 3) := by decide +kernel
theorem dX6_findZeros_111 : decode cX6_findZeros 111 = .ok (.iconst 2, 1) := by decide +kernel
theorem dX6_findZeros_112 : decode cX6_findZeros 112 = .ok (.iload 7, 2) := by decide +kernel
theorem dX6_findZeros_114 : decode cX6_findZeros 114 = .ok (.iastore, 1) := by decide +kernel
theorem dX6_findZeros_115 : decode cX6_findZeros 115 = .ok (.aload_n 0, 1) := by decide +kernel
theorem dX6_findZeros_116 : decode cX6_findZeros 116 = .ok (.getfield 9, 3) := by decide +kernel
theorem dX6_findZeros_119 : decode cX6_findZeros 119 = .ok (.iconst 3, 1) := by decide +kernel
theorem dX6_findZeros_120 : decode cX6_findZeros 120 = .ok (.iload 8, 2) := by decide +kernel
theorem dX6_findZeros_122 : decode cX6_findZeros 122 = .ok (.iastore, 1) := by decide +kernel
theorem dX6_findZeros_123 : decode cX6_findZeros 123 = .ok (.iconst 1, 1) := by decide +kernel
theorem dX6_findZeros_124 : decode cX6_findZeros 124 = .ok (.ireturn, 1) := by decide +kernel
theorem dX6_findZeros_125 : decode cX6_findZeros 125 = .ok (.iinc 7 1, 3) := by decide +kernel
theorem dX6_findZeros_128 : decode cX6_findZeros 128 = .ok (.goto (-112), 3) := by decide +kernel
theorem dX6_findZeros_131 : decode cX6_findZeros 131 = .ok (.iconst 0, 1) := by decide +kernel
theorem dX6_findZeros_132 : decode cX6_findZeros 132 = .ok (.ireturn, 1) := by decide +kernel
theorem dX7_init_0 : decode cX7_init 0 = .ok (.aload_n 0, 1) := by decide +kernel
theorem dX7_init_1 : decode cX7_init 1 = .ok (.invokespecial 1, 3) := by decide +kernel
theorem dX7_init_4 : decode cX7_init 4 = .ok (.aload_n 0, 1) := by decide +kernel
theorem dX7_init_5 : decode cX7_init 5 = .ok (.bipush 8, 2) := by decide +kernel
theorem dX7_init_7 : decode cX7_init 7 = .ok (.newarray .int, 2) := by decide +kernel
theorem dX7_init_9 : decode cX7_init 9 = .ok (.putfield 9, 3) := by decide +kernel
theorem dX7_init_12 : decode cX7_init 12 = .ok (.aload_n 0, 1) := by decide +kernel
theorem dX7_init_13 : decode cX7_init 13 = .ok (.bipush 8, 2) := by decide +kernel
theorem dX7_init_15 : decode cX7_init 15 = .ok (.newarray .long, 2) := by decide +kernel
theorem dX7_init_17 : decode cX7_init 17 = .ok (.putfield 13, 3) := by decide +kernel
theorem dX7_init_20 : decode cX7_init 20 = .ok (.aload_n 0, 1) := by decide +kernel
theorem dX7_init_21 : decode cX7_init 21 = .ok (.new 17, 3) := by decide +kernel
theorem dX7_init_24 : decode cX7_init 24 = .ok (.dup, 1) := by decide +kernel
theorem dX7_init_25 : decode cX7_init 25 = .ok (.invokespecial 19, 3) := by decide +kernel
theorem dX7_init_28 : decode cX7_init 28 = .ok (.putfield 20, 3) := by decide +kernel
theorem dX7_init_31 : decode cX7_init 31 = .ok (.aload_n 0, 1) := by decide +kernel
theorem dX7_init_32 : decode cX7_init 32 = .ok (.new 24, 3) := by decide +kernel
theorem dX7_init_35 : decode cX7_init 35 = .ok (.dup, 1) := by decide +kernel
theorem dX7_init_36 : decode cX7_init 36 = .ok (.invokespecial 26, 3) := by decide +kernel
theorem dX7_init_39 : decode cX7_init 39 = .ok (.putfield 27, 3) := by decide +kernel
theorem dX7_init_42 : decode cX7_init 42 = .ok (.aload_n 0, 1) := by decide +kernel
theorem dX7_init_43 : decode cX7_init 43 = .ok (.new 31, 3) := by decide +kernel
theorem dX7_init_46 : decode cX7_init 46 = .ok (.dup, 1) := by decide +kernel
theorem dX7_init_47 : decode cX7_init 47 = .ok (.invokespecial 33, 3) := by decide +kernel
theorem dX7_init_50 : decode cX7_init 50 = .ok (.putfield 34, 3) := by decide +kernel
theorem dX7_init_53 : decode cX7_init 53 = .ok (.aload_n 0, 1) := by decide +kernel
theorem dX7_init_54 : decode cX7_init 54 = .ok (.new 38, 3) := by decide +kernel
theorem dX7_init_57 : decode cX7_init 57 = .ok (.dup, 1) := by decide +kernel
theorem dX7_init_58 : decode cX7_init 58 = .ok (.invokespecial 40, 3) := by decide +kernel
theorem dX7_init_61 : decode cX7_init 61 = .ok (.putfield 41, 3) := by decide +kernel
theorem dX7_init_64 : decode cX7_init 64 = .ok (.aload_n 0, 1) := by decide +kernel
theorem dX7_init_65 : decode cX7_init 65 = .ok (.new 45, 3) := by decide +kernel
theorem dX7_init_68 : decode cX7_init 68 = .ok (.dup, 1) := by decide +kernel
theorem dX7_init_69 : decode cX7_init 69 = .ok (.invokespecial 47, 3) := by decide +kernel
theorem dX7_init_72 : decode cX7_init 72 = .ok (.putfield 48, 3) := by decide +kernel
theorem dX7_init_75 : decode cX7_init 75 = .ok (.aload_n 0, 1) := by decide +kernel
theorem dX7_init_76 : decode cX7_init 76 = .ok (.getfield 9, 3) := by decide +kernel
theorem dX7_init_79 : decode cX7_init 79 = .ok (.iconst 1, 1) := by decide +kernel
theorem dX7_init_80 : decode cX7_init 80 = .ok (.invokestatic 52, 3) := by decide +kernel
theorem dX7_init_83 : decode cX7_init 83 = .ok (.return_, 1) := by decide +kernel
theorem dX7_table_0 : decode cX7_table 0 = .ok (.iload_n 1, 1) := by decide +kernel
theorem dX7_table_1 : decode cX7_table 1 = .ok (.invokestatic 58, 3) := by decide +kernel
theorem dX7_table_4 : decode cX7_table 4 = .ok (.ifCond .ne 5, 3) := by decide +kernel
theorem dX7_table_7 : decode cX7_table 7 = .ok (.iconst (-1), 1) := by decide +kernel
theorem dX7_table_8 : decode cX7_table 8 = .ok (.ireturn, 1) := by decide +kernel
theorem dX7_table_9 : decode cX7_table 9 = .ok (.iload_n 2, 1) := by decide +kernel
theorem dX7_table_10 : decode cX7_table 10 = .ok (.iconst 1, 1) := by decide +kernel
theorem dX7_table_11 : decode cX7_table 11 = .ok (.iconst 5, 1) := by decide +kernel
theorem dX7_table_12 : decode cX7_table 12 = .ok (.invokestatic 62, 3) := by decide +kernel
theorem dX7_table_15 : decode cX7_table 15 = .ok (.ifCond .eq 18, 3) := by decide +kernel
theorem dX7_table_18 : decode cX7_table 18 = .ok (.lload_n 3, 1) := by decide +kernel
theorem dX7_table_19 : decode cX7_table 19 = .ok (.lconst 0, 1) := by decide +kernel
theorem dX7_table_20 : decode cX7_table 20 = .ok (.lcmp, 1) := by decide +kernel
theorem dX7_table_21 : decode cX7_table 21 = .ok (.ifCond .lt 12, 3) := by decide +kernel
theorem dX7_table_24 : decode cX7_table 24 = .ok (.lload_n 3, 1) := by decide +kernel
theorem dX7_table_25 : decode cX7_table 25 = .ok (.iload_n 2, 1) := by decide +kernel
theorem dX7_table_26 : decode cX7_table 26 = .ok (.invokestatic 66, 3) := by decide +kernel
theorem dX7_table_29 : decode cX7_table 29 = .ok (.lcmp, 1) := by decide +kernel
theorem dX7_table_30 : decode cX7_table 30 = .ok (.ifCond .le 6, 3) := by decide +kernel
theorem dX7_table_33 : decode cX7_table 33 = .ok (.bipush (-2), 2) := by decide +kernel
theorem dX7_table_35 : decode cX7_table 35 = .ok (.ireturn, 1) := by decide +kernel
theorem dX7_table_36 : decode cX7_table 36 = .ok (.aload_n 0, 1) := by decide +kernel
theorem dX7_table_37 : decode cX7_table 37 = .ok (.iload_n 1, 1) := by decide +kernel
theorem dX7_table_38 : decode cX7_table 38 = .ok (.iload_n 2, 1) := by decide +kernel
theorem dX7_table_39 : decode cX7_table 39 = .ok (.lload_n 3, 1) := by decide +kernel
theorem dX7_table_40 : decode cX7_table 40 = .ok (.invokevirtual 72, 3) := by decide +kernel
theorem dX7_table_43 : decode cX7_table 43 = .ok (.ireturn, 1) := by decide +kernel
theorem dX7_weigh_0 : decode cX7_weigh 0 = .ok (.iload_n 1, 1) := by decide +kernel
theorem dX7_weigh_1 : decode cX7_weigh 1 = .ok (.invokestatic 58, 3) := by decide +kernel
theorem dX7_weigh_4 : decode cX7_weigh 4 = .ok (.ifCond .ne 7, 3) := by decide +kernel
theorem dX7_weigh_7 : decode cX7_weigh 7 = .ok (.ldc2_w 76, 3) := by decide +kernel
theorem dX7_weigh_10 : decode cX7_weigh 10 = .ok (.lreturn, 1) := by decide +kernel
theorem dX7_weigh_11 : decode cX7_weigh 11 = .ok (.iload_n 2, 1) := by decide +kernel
theorem dX7_weigh_12 : decode cX7_weigh 12 = .ok (.iconst 1, 1) := by decide +kernel
theorem dX7_weigh_13 : decode cX7_weigh 13 = .ok (.iconst 5, 1) := by decide +kernel
theorem dX7_weigh_14 : decode cX7_weigh 14 = .ok (.invokestatic 62, 3) := by decide +kernel
theorem dX7_weigh_17 : decode cX7_weigh 17 = .ok (.ifCond .eq 31, 3) := by decide +kernel
theorem dX7_weigh_20 : decode cX7_weigh 20 = .ok (.lload_n 3, 1) := by decide +kernel
theorem dX7_weigh_21 : decode cX7_weigh 21 = .ok (.lconst 0, 1) := by decide +kernel
theorem dX7_weigh_22 : decode cX7_weigh 22 = .ok (.lcmp, 1) := by decide +kernel
theorem dX7_weigh_23 : decode cX7_weigh 23 = .ok (.ifCond .lt 25, 3) := by decide +kernel
theorem dX7_weigh_26 : decode cX7_weigh 26 = .ok (.lload_n 3, 1) := by decide +kernel
theorem dX7_weigh_27 : decode cX7_weigh 27 = .ok (.ldc2_w 78, 3) := by decide +kernel
theorem dX7_weigh_30 : decode cX7_weigh 30 = .ok (.lcmp, 1) := by decide +kernel
theorem dX7_weigh_31 : decode cX7_weigh 31 = .ok (.ifCond .ge 17, 3) := by decide +kernel
theorem dX7_weigh_34 : decode cX7_weigh 34 = .ok (.iload 5, 2) := by decide +kernel
theorem dX7_weigh_36 : decode cX7_weigh 36 = .ok (.sipush (-999), 3) := by decide +kernel
theorem dX7_weigh_39 : decode cX7_weigh 39 = .ok (.sipush 999, 3) := by decide +kernel
theorem dX7_weigh_42 : decode cX7_weigh 42 = .ok (.invokestatic 62, 3) := by decide +kernel
theorem dX7_weigh_45 : decode cX7_weigh 45 = .ok (.ifCond .ne 7, 3) := by decide +kernel
theorem dX7_weigh_48 : decode cX7_weigh 48 = .ok (.ldc2_w 80, 3) := by decide +kernel
theorem dX7_weigh_51 : decode cX7_weigh 51 = .ok (.lreturn, 1) := by decide +kernel
theorem dX7_weigh_52 : decode cX7_weigh 52 = .ok (.lconst 0, 1) := by decide +kernel
theorem dX7_weigh_53 : decode cX7_weigh 53 = .ok (.lstore 6, 2) := by decide +kernel
theorem dX7_weigh_55 : decode cX7_weigh 55 = .ok (.iconst 0, 1) := by decide +kernel
theorem dX7_weigh_56 : decode cX7_weigh 56 = .ok (.istore 8, 2) := by decide +kernel
theorem dX7_weigh_58 : decode cX7_weigh 58 = .ok (.iload 8, 2) := by decide +kernel
theorem dX7_weigh_60 : decode cX7_weigh 60 = .ok (.iload_n 2, 1) := by decide +kernel
theorem dX7_weigh_61 : decode cX7_weigh 61 = .ok (.invokestatic 82, 3) := by decide +kernel
theorem dX7_weigh_64 : decode cX7_weigh 64 = .ok (.if_icmp .ge 30, 3) := by decide +kernel
theorem dX7_weigh_67 : decode cX7_weigh 67 = .ok (.iload 8, 2) := by decide +kernel
theorem dX7_weigh_69 : decode cX7_weigh 69 = .ok (.iload_n 2, 1) := by decide +kernel
theorem dX7_weigh_70 : decode cX7_weigh 70 = .ok (.lload_n 3, 1) := by decide +kernel
theorem dX7_weigh_71 : decode cX7_weigh 71 = .ok (.invokestatic 86, 3) := by decide +kernel
theorem dX7_weigh_74 : decode cX7_weigh 74 = .ok (.iload 5, 2) := by decide +kernel
theorem dX7_weigh_76 : decode cX7_weigh 76 = .ok (.if_icmp .lt 12, 3) := by decide +kernel
theorem dX7_weigh_79 : decode cX7_weigh 79 = .ok (.lload 6, 2) := by decide +kernel
theorem dX7_weigh_81 : decode cX7_weigh 81 = .ok (.lconst 1, 1) := by decide +kernel
theorem dX7_weigh_82 : decode cX7_weigh 82 = .ok (.iload 8, 2) := by decide +kernel
theorem dX7_weigh_84 : decode cX7_weigh 84 = .ok (.lshl, 1) := by decide +kernel
theorem dX7_weigh_85 : decode cX7_weigh 85 = .ok (.lor, 1) := by decide +kernel
theorem dX7_weigh_86 : decode cX7_weigh 86 = .ok (.lstore 6, 2) := by decide +kernel
