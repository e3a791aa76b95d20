theorem dX7_turn_0 : decode cX7_turn 0 = .ok (.aload_n 0, 1) := by decide +kernel
theorem dX7_turn_1 : decode cX7_turn 1 = .ok (.getfield 47, 3) := by decide +kernel
theorem dX7_turn_4 : decode cX7_turn 4 = .ok (.invokevirtual 201, 3) := by decide +kernel
theorem dX7_turn_7 : decode cX7_turn 7 = .ok (.ifCond .eq 11, 3) := by decide +kernel
theorem dX7_turn_10 : decode cX7_turn 10 = .ok (.aload_n 0, 1) := by decide +kernel
theorem dX7_turn_11 : decode cX7_turn 11 = .ok (.getfield 47, 3) := by decide +kernel
theorem dX7_turn_14 : decode cX7_turn 14 = .ok (.invokevirtual 177, 3) := by decide +kernel
theorem dX7_turn_17 : decode cX7_turn 17 = .ok (.return_, 1) := by decide +kernel
theorem dX7_turn_18 : decode cX7_turn 18 = .ok (.aload_n 0, 1) := by decide +kernel
theorem dX7_turn_19 : decode cX7_turn 19 = .ok (.getfield 47, 3) := by decide +kernel
theorem dX7_turn_22 : decode cX7_turn 22 = .ok (.invokevirtual 165, 3) := by decide +kernel
theorem dX7_turn_25 : decode cX7_turn 25 = .ok (.iconst 2, 1) := by decide +kernel
theorem dX7_turn_26 : decode cX7_turn 26 = .ok (.if_icmp .ne 7, 3) := by decide +kernel
theorem dX7_turn_29 : decode cX7_turn 29 = .ok (.iconst 1, 1) := by decide +kernel
theorem dX7_turn_30 : decode cX7_turn 30 = .ok (.goto 4, 3) := by decide +kernel
theorem dX7_turn_33 : decode cX7_turn 33 = .ok (.iconst 0, 1) := by decide +kernel
theorem dX7_turn_34 : decode cX7_turn 34 = .ok (.istore_n 1, 1) := by decide +kernel
theorem dX7_turn_35 : decode cX7_turn 35 = .ok (.aload_n 0, 1) := by decide +kernel
theorem dX7_turn_36 : decode cX7_turn 36 = .ok (.getfield 47, 3) := by decide +kernel
theorem dX7_turn_39 : decode cX7_turn 39 = .ok (.iconst 1, 1) := by decide +kernel
theorem dX7_turn_40 : decode cX7_turn 40 = .ok (.invokevirtual 205, 3) := by decide +kernel
theorem dX7_turn_43 : decode cX7_turn 43 = .ok (.ifCond .ne 21, 3) := by decide +kernel
theorem dX7_turn_46 : decode cX7_turn 46 = .ok (.aload_n 0, 1) := by decide +kernel
theorem dX7_turn_47 : decode cX7_turn 47 = .ok (.getfield 47, 3) := by decide +kernel
theorem dX7_turn_50 : decode cX7_turn 50 = .ok (.invokevirtual 177, 3) := by decide +kernel
theorem dX7_turn_53 : decode cX7_turn 53 = .ok (.aload_n 0, 1) := by decide +kernel
theorem dX7_turn_54 : decode cX7_turn 54 = .ok (.bipush 8, 2) := by decide +kernel
theorem dX7_turn_56 : decode cX7_turn 56 = .ok (.bipush (-2), 2) := by decide +kernel
theorem dX7_turn_58 : decode cX7_turn 58 = .ok (.invokevirtual 197, 3) := by decide +kernel
theorem dX7_turn_61 : decode cX7_turn 61 = .ok (.goto 76, 3) := by decide +kernel
theorem dX7_turn_64 : decode cX7_turn 64 = .ok (.iload_n 1, 1) := by decide +kernel
theorem dX7_turn_65 : decode cX7_turn 65 = .ok (.ifCond .eq 30, 3) := by decide +kernel
theorem dX7_turn_68 : decode cX7_turn 68 = .ok (.aload_n 0, 1) := by decide +kernel
theorem dX7_turn_69 : decode cX7_turn 69 = .ok (.getfield 27, 3) := by decide +kernel
theorem dX7_turn_72 : decode cX7_turn 72 = .ok (.invokevirtual 208, 3) := by decide +kernel
theorem dX7_turn_75 : decode cX7_turn 75 = .ok (.ifCond .eq 20, 3) := by decide +kernel
theorem dX7_turn_78 : decode cX7_turn 78 = .ok (.aload_n 0, 1) := by decide +kernel
theorem dX7_turn_79 : decode cX7_turn 79 = .ok (.getfield 47, 3) := by decide +kernel
theorem dX7_turn_82 : decode cX7_turn 82 = .ok (.invokevirtual 177, 3) := by decide +kernel
theorem dX7_turn_85 : decode cX7_turn 85 = .ok (.aload_n 0, 1) := by decide +kernel
theorem dX7_turn_86 : decode cX7_turn 86 = .ok (.iconst 2, 1) := by decide +kernel
theorem dX7_turn_87 : decode cX7_turn 87 = .ok (.bipush (-2), 2) := by decide +kernel
theorem dX7_turn_89 : decode cX7_turn 89 = .ok (.invokevirtual 197, 3) := by decide +kernel
theorem dX7_turn_92 : decode cX7_turn 92 = .ok (.goto 45, 3) := by decide +kernel
theorem dX7_turn_95 : decode cX7_turn 95 = .ok (.iload_n 1, 1) := by decide +kernel
theorem dX7_turn_96 : decode cX7_turn 96 = .ok (.ifCond .eq 19, 3) := by decide +kernel
theorem dX7_turn_99 : decode cX7_turn 99 = .ok (.aload_n 0, 1) := by decide +kernel
theorem dX7_turn_100 : decode cX7_turn 100 = .ok (.getfield 27, 3) := by decide +kernel
theorem dX7_turn_103 : decode cX7_turn 103 = .ok (.iconst 0, 1) := by decide +kernel
theorem dX7_turn_104 : decode cX7_turn 104 = .ok (.aload_n 0, 1) := by decide +kernel
theorem dX7_turn_105 : decode cX7_turn 105 = .ok (.getfield 47, 3) := by decide +kernel
theorem dX7_turn_108 : decode cX7_turn 108 = .ok (.invokevirtual 211, 3) := by decide +kernel
theorem dX7_turn_111 : decode cX7_turn 111 = .ok (.invokevirtual 77, 3) := by decide +kernel
theorem dX7_turn_114 : decode cX7_turn 114 = .ok (.pop, 1) := by decide +kernel
theorem dX7_turn_115 : decode cX7_turn 115 = .ok (.aload_n 0, 1) := by decide +kernel
theorem dX7_turn_116 : decode cX7_turn 116 = .ok (.getfield 47, 3) := by decide +kernel
theorem dX7_turn_119 : decode cX7_turn 119 = .ok (.invokevirtual 214, 3) := by decide +kernel
theorem dX7_turn_122 : decode cX7_turn 122 = .ok (.aload_n 0, 1) := by decide +kernel
theorem dX7_turn_123 : decode cX7_turn 123 = .ok (.getfield 47, 3) := by decide +kernel
theorem dX7_turn_126 : decode cX7_turn 126 = .ok (.iconst 0, 1) := by decide +kernel
theorem dX7_turn_127 : decode cX7_turn 127 = .ok (.aload_n 0, 1) := by decide +kernel
theorem dX7_turn_128 : decode cX7_turn 128 = .ok (.getfield 47, 3) := by decide +kernel
theorem dX7_turn_131 : decode cX7_turn 131 = .ok (.invokevirtual 180, 3) := by decide +kernel
theorem dX7_turn_134 : decode cX7_turn 134 = .ok (.invokevirtual 217, 3) := by decide +kernel
theorem dX7_turn_137 : decode cX7_turn 137 = .ok (.return_, 1) := by decide +kernel
theorem dX0_topPlace_0 : decode cX0_topPlace 0 = .ok (.aload_n 0, 1) := by decide +kernel
theorem dX0_topPlace_1 : decode cX0_topPlace 1 = .ok (.getfield 31, 3) := by decide +kernel
theorem dX0_topPlace_4 : decode cX0_topPlace 4 = .ok (.ifCond .le 17, 3) := by decide +kernel
theorem dX0_topPlace_7 : decode cX0_topPlace 7 = .ok (.aload_n 0, 1) := by decide +kernel
theorem dX0_topPlace_8 : decode cX0_topPlace 8 = .ok (.getfield 18, 3) := by decide +kernel
theorem dX0_topPlace_11 : decode cX0_topPlace 11 = .ok (.aload_n 0, 1) := by decide +kernel
theorem dX0_topPlace_12 : decode cX0_topPlace 12 = .ok (.getfield 31, 3) := by decide +kernel
theorem dX0_topPlace_15 : decode cX0_topPlace 15 = .ok (.iconst 1, 1) := by decide +kernel
theorem dX0_topPlace_16 : decode cX0_topPlace 16 = .ok (.isub, 1) := by decide +kernel
theorem dX0_topPlace_17 : decode cX0_topPlace 17 = .ok (.iaload, 1) := by decide +kernel
theorem dX0_topPlace_18 : decode cX0_topPlace 18 = .ok (.goto 4, 3) := by decide +kernel
theorem dX0_topPlace_21 : decode cX0_topPlace 21 = .ok (.iconst 0, 1) := by decide +kernel
theorem dX0_topPlace_22 : decode cX0_topPlace 22 = .ok (.ireturn, 1) := by decide +kernel
theorem dX0_goBy_0 : decode cX0_goBy 0 = .ok (.aload_n 0, 1) := by decide +kernel
theorem dX0_goBy_1 : decode cX0_goBy 1 = .ok (.getfield 31, 3) := by decide +kernel
theorem dX0_goBy_4 : decode cX0_goBy 4 = .ok (.ifCond .le 18, 3) := by decide +kernel
theorem dX0_goBy_7 : decode cX0_goBy 7 = .ok (.aload_n 0, 1) := by decide +kernel
theorem dX0_goBy_8 : decode cX0_goBy 8 = .ok (.getfield 18, 3) := by decide +kernel
theorem dX0_goBy_11 : decode cX0_goBy 11 = .ok (.aload_n 0, 1) := by decide +kernel
theorem dX0_goBy_12 : decode cX0_goBy 12 = .ok (.getfield 31, 3) := by decide +kernel
theorem dX0_goBy_15 : decode cX0_goBy 15 = .ok (.iconst 1, 1) := by decide +kernel
theorem dX0_goBy_16 : decode cX0_goBy 16 = .ok (.isub, 1) := by decide +kernel
theorem dX0_goBy_17 : decode cX0_goBy 17 = .ok (.dup2, 1) := by decide +kernel
theorem dX0_goBy_18 : decode cX0_goBy 18 = .ok (.iaload, 1) := by decide +kernel
theorem dX0_goBy_19 : decode cX0_goBy 19 = .ok (.iconst 1, 1) := by decide +kernel
theorem dX0_goBy_20 : decode cX0_goBy 20 = .ok (.iadd, 1) := by decide +kernel
theorem dX0_goBy_21 : decode cX0_goBy 21 = .ok (.iastore, 1) := by decide +kernel
theorem dX0_goBy_22 : decode cX0_goBy 22 = .ok (.return_, 1) := by decide +kernel
theorem dX4_hasToken_0 : decode cX4_hasToken 0 = .ok (.iload_n 2, 1) := by decide +kernel
theorem dX4_hasToken_1 : decode cX4_hasToken 1 = .ok (.ifCond .lt 16, 3) := by decide +kernel
theorem dX4_hasToken_4 : decode cX4_hasToken 4 = .ok (.iload_n 2, 1) := by decide +kernel
theorem dX4_hasToken_5 : decode cX4_hasToken 5 = .ok (.aload_n 0, 1) := by decide +kernel
theorem dX4_hasToken_6 : decode cX4_hasToken 6 = .ok (.iload_n 1, 1) := by decide +kernel
theorem dX4_hasToken_7 : decode cX4_hasToken 7 = .ok (.invokevirtual 25, 3) := by decide +kernel
theorem dX4_hasToken_10 : decode cX4_hasToken 10 = .ok (.if_icmp .ge 7, 3) := by decide +kernel
theorem dX4_hasToken_13 : decode cX4_hasToken 13 = .ok (.iconst 1, 1) := by decide +kernel
theorem dX4_hasToken_14 : decode cX4_hasToken 14 = .ok (.goto 4, 3) := by decide +kernel
theorem dX4_hasToken_17 : decode cX4_hasToken 17 = .ok (.iconst 0, 1) := by decide +kernel
theorem dX4_hasToken_18 : decode cX4_hasToken 18 = .ok (.ireturn, 1) := by decide +kernel
theorem dX4_kindAt_0 : decode cX4_kindAt 0 = .ok (.aload_n 0, 1) := by decide +kernel
theorem dX4_kindAt_1 : decode cX4_kindAt 1 = .ok (.iload_n 1, 1) := by decide +kernel
theorem dX4_kindAt_2 : decode cX4_kindAt 2 = .ok (.iload_n 2, 1) := by decide +kernel
theorem dX4_kindAt_3 : decode cX4_kindAt 3 = .ok (.invokevirtual 29, 3) := by decide +kernel
theorem dX4_kindAt_6 : decode cX4_kindAt 6 = .ok (.ifCond .eq 17, 3) := by decide +kernel
theorem dX4_kindAt_9 : decode cX4_kindAt 9 = .ok (.aload_n 0, 1) := by decide +kernel
theorem dX4_kindAt_10 : decode cX4_kindAt 10 = .ok (.getfield 9, 3) := by decide +kernel
theorem dX4_kindAt_13 : decode cX4_kindAt 13 = .ok (.iload_n 1, 1) := by decide +kernel
theorem dX4_kindAt_14 : decode cX4_kindAt 14 = .ok (.bipush 24, 2) := by decide +kernel
theorem dX4_kindAt_16 : decode cX4_kindAt 16 = .ok (.imul, 1) := by decide +kernel
theorem dX4_kindAt_17 : decode cX4_kindAt 17 = .ok (.iload_n 2, 1) := by decide +kernel
theorem dX4_kindAt_18 : decode cX4_kindAt 18 = .ok (.iadd, 1) := by decide +kernel
theorem dX4_kindAt_19 : decode cX4_kindAt 19 = .ok (.iaload, 1) := by decide +kernel
theorem dX4_kindAt_20 : decode cX4_kindAt 20 = .ok (.goto 4, 3) := by decide +kernel
theorem dX4_kindAt_23 : decode cX4_kindAt 23 = .ok (.iconst (-1), 1) := by decide +kernel
theorem dX4_kindAt_24 : decode cX4_kindAt 24 = .ok (.ireturn, 1) := by decide +kernel
theorem dX4_numberAt_0 : decode cX4_numberAt 0 = .ok (.aload_n 0, 1) := by decide +kernel
theorem dX4_numberAt_1 : decode cX4_numberAt 1 = .ok (.iload_n 1, 1) := by decide +kernel
theorem dX4_numberAt_2 : decode cX4_numberAt 2 = .ok (.iload_n 2, 1) := by decide +kernel
theorem dX4_numberAt_3 : decode cX4_numberAt 3 = .ok (.invokevirtual 29, 3) := by decide +kernel
theorem dX4_numberAt_6 : decode cX4_numberAt 6 = .ok (.ifCond .eq 17, 3) := by decide +kernel
theorem dX4_numberAt_9 : decode cX4_numberAt 9 = .ok (.aload_n 0, 1) := by decide +kernel
theorem dX4_numberAt_10 : decode cX4_numberAt 10 = .ok (.getfield 15, 3) := by decide +kernel
theorem dX4_numberAt_13 : decode cX4_numberAt 13 = .ok (.iload_n 1, 1) := by decide +kernel
theorem dX4_numberAt_14 : decode cX4_numberAt 14 = .ok (.bipush 24, 2) := by decide +kernel
theorem dX4_numberAt_16 : decode cX4_numberAt 16 = .ok (.imul, 1) := by decide +kernel
theorem dX4_numberAt_17 : decode cX4_numberAt 17 = .ok (.iload_n 2, 1) := by decide +kernel
theorem dX4_numberAt_18 : decode cX4_numberAt 18 = .ok (.iadd, 1) := by decide +kernel
theorem dX4_numberAt_19 : decode cX4_numberAt 19 = .ok (.iaload, 1) := by decide +kernel
theorem dX4_numberAt_20 : decode cX4_numberAt 20 = .ok (.goto 4, 3) := by decide +kernel
theorem dX4_numberAt_23 : decode cX4_numberAt 23 = .ok (.iconst 0, 1) := by decide +kernel
theorem dX4_numberAt_24 : decode cX4_numberAt 24 = .ok (.ireturn, 1) := by decide +kernel
theorem dX2_kindUnder_0 : decode cX2_kindUnder 0 = .ok (.iload_n 1, 1) := by decide +kernel
theorem dX2_kindUnder_1 : decode cX2_kindUnder 1 = .ok (.ifCond .lt 27, 3) := by decide +kernel
theorem dX2_kindUnder_4 : decode cX2_kindUnder 4 = .ok (.iload_n 1, 1) := by decide +kernel
theorem dX2_kindUnder_5 : decode cX2_kindUnder 5 = .ok (.aload_n 0, 1) := by decide +kernel
theorem dX2_kindUnder_6 : decode cX2_kindUnder 6 = .ok (.getfield 18, 3) := by decide +kernel
theorem dX2_kindUnder_9 : decode cX2_kindUnder 9 = .ok (.if_icmp .ge 19, 3) := by decide +kernel
theorem dX2_kindUnder_12 : decode cX2_kindUnder 12 = .ok (.aload_n 0, 1) := by decide +kernel
theorem dX2_kindUnder_13 : decode cX2_kindUnder 13 = .ok (.getfield 9, 3) := by decide +kernel
theorem dX2_kindUnder_16 : decode cX2_kindUnder 16 = .ok (.aload_n 0, 1) := by decide +kernel
theorem dX2_kindUnder_17 : decode cX2_kindUnder 17 = .ok (.getfield 18, 3) := by decide +kernel
theorem dX2_kindUnder_20 : decode cX2_kindUnder 20 = .ok (.iconst 1, 1) := by decide +kernel
theorem dX2_kindUnder_21 : decode cX2_kindUnder 21 = .ok (.isub, 1) := by decide +kernel
theorem dX2_kindUnder_22 : decode cX2_kindUnder 22 = .ok (.iload_n 1, 1) := by decide +kernel
theorem dX2_kindUnder_23 : decode cX2_kindUnder 23 = .ok (.isub, 1) := by decide +kernel
theorem dX2_kindUnder_24 : decode cX2_kindUnder 24 = .ok (.iaload, 1) := by decide +kernel
theorem dX2_kindUnder_25 : decode cX2_kindUnder 25 = .ok (.goto 4, 3) := by decide +kernel
theorem dX2_kindUnder_28 : decode cX2_kindUnder 28 = .ok (.iconst (-1), 1) := by decide +kernel
theorem dX2_kindUnder_29 : decode cX2_kindUnder 29 = .ok (.ireturn, 1) := by decide +kernel
theorem dX7_misfit_0 : decode cX7_misfit 0 = .ok (.iload_n 1, 1) := by decide +kernel
theorem dX7_misfit_1 : decode cX7_misfit 1 = .ok (.iconst 4, 1) := by decide +kernel
theorem dX7_misfit_2 : decode cX7_misfit 2 = .ok (.imul, 1) := by decide +kernel
theorem dX7_misfit_3 : decode cX7_misfit 3 = .ok (.istore_n 2, 1) := by decide +kernel
theorem dX7_misfit_4 : decode cX7_misfit 4 = .ok (.iload_n 2, 1) := by decide +kernel
theorem dX7_misfit_5 : decode cX7_misfit 5 = .ok (.ifCond .lt 13, 3) := by decide +kernel
theorem dX7_misfit_8 : decode cX7_misfit 8 = .ok (.iload_n 2, 1) := by decide +kernel
theorem dX7_misfit_9 : decode cX7_misfit 9 = .ok (.getstatic 233, 3) := by decide +kernel
theorem dX7_misfit_12 : decode cX7_misfit 12 = .ok (.arraylength, 1) := by decide +kernel
theorem dX7_misfit_13 : decode cX7_misfit 13 = .ok (.iconst 4, 1) := by decide +kernel
theorem dX7_misfit_14 : decode cX7_misfit 14 = .ok (.isub, 1) := by decide +kernel
theorem dX7_misfit_15 : decode cX7_misfit 15 = .ok (.if_icmp .le 5, 3) := by decide +kernel
theorem dX7_misfit_18 : decode cX7_misfit 18 = .ok (.iconst 4, 1) := by decide +kernel
theorem dX7_misfit_19 : decode cX7_misfit 19 = .ok (.ireturn, 1) := by decide +kernel
theorem dX7_misfit_20 : decode cX7_misfit 20 = .ok (.iconst 0, 1) := by decide +kernel
theorem dX7_misfit_21 : decode cX7_misfit 21 = .ok (.istore_n 3, 1) := by decide +kernel
theorem dX7_misfit_22 : decode cX7_misfit 22 = .ok (.iconst 0, 1) := by decide +kernel
theorem dX7_misfit_23 : decode cX7_misfit 23 = .ok (.istore 4, 2) := by decide +kernel
theorem dX7_misfit_25 : decode cX7_misfit 25 = .ok (.iload 4, 2) := by decide +kernel
theorem dX7_misfit_27 : decode cX7_misfit 27 = .ok (.iconst 4, 1) := by decide +kernel
theorem dX7_misfit_28 : decode cX7_misfit 28 = .ok (.if_icmp .ge 65, 3) := by decide +kernel
theorem dX7_misfit_31 : decode cX7_misfit 31 = .ok (.getstatic 233, 3) := by decide +kernel
theorem dX7_misfit_34 : decode cX7_misfit 34 = .ok (.iload_n 2, 1) := by decide +kernel
theorem dX7_misfit_35 : decode cX7_misfit 35 = .ok (.iload 4, 2) := by decide +kernel
theorem dX7_misfit_37 : decode cX7_misfit 37 = .ok (.iadd, 1) := by decide +kernel
theorem dX7_misfit_38 : decode cX7_misfit 38 = .ok (.iaload, 1) := by decide +kernel
theorem dX7_misfit_39 : decode cX7_misfit 39 = .ok (.istore 5, 2) := by decide +kernel
theorem dX7_misfit_41 : decode cX7_misfit 41 = .ok (.iload 5, 2) := by decide +kernel
theorem dX7_misfit_43 : decode cX7_misfit 43 = .ok (.bipush (-3), 2) := by decide +kernel
theorem dX7_misfit_45 : decode cX7_misfit 45 = .ok (.if_icmp .ne 5, 3) := by decide +kernel
theorem dX7_misfit_48 : decode cX7_misfit 48 = .ok (.iload_n 3, 1) := by decide +kernel
theorem dX7_misfit_49 : decode cX7_misfit 49 = .ok (.ireturn, 1) := by decide +kernel
theorem dX7_misfit_50 : decode cX7_misfit 50 = .ok (.iload 4, 2) := by decide +kernel
theorem dX7_misfit_52 : decode cX7_misfit 52 = .ok (.aload_n 0, 1) := by decide +kernel
theorem dX7_misfit_53 : decode cX7_misfit 53 = .ok (.getfield 27, 3) := by decide +kernel
theorem dX7_misfit_56 : decode cX7_misfit 56 = .ok (.invokevirtual 82, 3) := by decide +kernel
theorem dX7_misfit_59 : decode cX7_misfit 59 = .ok (.if_icmp .lt 5, 3) := by decide +kernel
theorem dX7_misfit_62 : decode cX7_misfit 62 = .ok (.iconst 1, 1) := by decide +kernel
theorem dX7_misfit_63 : decode cX7_misfit 63 = .ok (.ireturn, 1) := by decide +kernel
theorem dX7_misfit_64 : decode cX7_misfit 64 = .ok (.iload 5, 2) := by decide +kernel
theorem dX7_misfit_66 : decode cX7_misfit 66 = .ok (.bipush (-2), 2) := by decide +kernel
theorem dX7_misfit_68 : decode cX7_misfit 68 = .ok (.if_icmp .eq 19, 3) := by decide +kernel
theorem dX7_misfit_71 : decode cX7_misfit 71 = .ok (.aload_n 0, 1) := by decide +kernel
theorem dX7_misfit_72 : decode cX7_misfit 72 = .ok (.getfield 27, 3) := by decide +kernel
theorem dX7_misfit_75 : decode cX7_misfit 75 = .ok (.iload 4, 2) := by decide +kernel
theorem dX7_misfit_77 : decode cX7_misfit 77 = .ok (.invokevirtual 237, 3) := by decide +kernel
theorem dX7_misfit_80 : decode cX7_misfit 80 = .ok (.iload 5, 2) := by decide +kernel
theorem dX7_misfit_82 : decode cX7_misfit 82 = .ok (.if_icmp .eq 5, 3) := by decide +kernel
theorem dX7_misfit_85 : decode cX7_misfit 85 = .ok (.iconst 3, 1) := by decide +kernel
theorem dX7_misfit_86 : decode cX7_misfit 86 = .ok (.istore_n 3, 1) := by decide +kernel
theorem dX7_misfit_87 : decode cX7_misfit 87 = .ok (.iinc 4 1, 3) := by decide +kernel
theorem dX7_misfit_90 : decode cX7_misfit 90 = .ok (.goto (-65), 3) := by decide +kernel
theorem dX7_misfit_93 : decode cX7_misfit 93 = .ok (.iload_n 3, 1) := by decide +kernel
theorem dX7_misfit_94 : decode cX7_misfit 94 = .ok (.ireturn, 1) := by decide +kernel
theorem dX2_numberUnder_0 : decode cX2_numberUnder 0 = .ok (.iload_n 1, 1) := by decide +kernel
theorem dX2_numberUnder_1 : decode cX2_numberUnder 1 = .ok (.ifCond .lt 27, 3) := by decide +kernel
theorem dX2_numberUnder_4 : decode cX2_numberUnder 4 = .ok (.iload_n 1, 1) := by decide +kernel
theorem dX2_numberUnder_5 : decode cX2_numberUnder 5 = .ok (.aload_n 0, 1) := by decide +kernel
theorem dX2_numberUnder_6 : decode cX2_numberUnder 6 = .ok (.getfield 18, 3) := by decide +kernel
theorem dX2_numberUnder_9 : decode cX2_numberUnder 9 = .ok (.if_icmp .ge 19, 3) := by decide +kernel
theorem dX2_numberUnder_12 : decode cX2_numberUnder 12 = .ok (.aload_n 0, 1) := by decide +kernel
theorem dX2_numberUnder_13 : decode cX2_numberUnder 13 = .ok (.getfield 15, 3) := by decide +kernel
theorem dX2_numberUnder_16 : decode cX2_numberUnder 16 = .ok (.aload_n 0, 1) := by decide +kernel
theorem dX2_numberUnder_17 : decode cX2_numberUnder 17 = .ok (.getfield 18, 3) := by decide +kernel
theorem dX2_numberUnder_20 : decode cX2_numberUnder 20 = .ok (.iconst 1, 1) := by decide +kernel
theorem dX2_numberUnder_21 : decode cX2_numberUnder 21 = .ok (.isub, 1) := by decide +kernel
theorem dX2_numberUnder_22 : decode cX2_numberUnder 22 = .ok (.iload_n 1, 1) := by decide +kernel
theorem dX2_numberUnder_23 : decode cX2_numberUnder 23 = .ok (.isub, 1) := by decide +kernel
theorem dX2_numberUnder_24 : decode cX2_numberUnder 24 = .ok (.iaload, 1) := by decide +kernel
theorem dX2_numberUnder_25 : decode cX2_numberUnder 25 = .ok (.goto 4, 3) := by decide +kernel
theorem dX2_numberUnder_28 : decode cX2_numberUnder 28 = .ok (.iconst 0, 1) := by decide +kernel
theorem dX2_numberUnder_29 : decode cX2_numberUnder 29 = .ok (.ireturn, 1) := by decide +kernel
theorem dX6_kindOf_0 : decode cX6_kindOf 0 = .ok (.iload_n 1, 1) := by decide +kernel
theorem dX6_kindOf_1 : decode cX6_kindOf 1 = .ok (.ifCond .lt 18, 3) := by decide +kernel
theorem dX6_kindOf_4 : decode cX6_kindOf 4 = .ok (.iload_n 1, 1) := by decide +kernel
theorem dX6_kindOf_5 : decode cX6_kindOf 5 = .ok (.bipush 40, 2) := by decide +kernel
theorem dX6_kindOf_7 : decode cX6_kindOf 7 = .ok (.if_icmp .ge 12, 3) := by decide +kernel
theorem dX6_kindOf_10 : decode cX6_kindOf 10 = .ok (.aload_n 0, 1) := by decide +kernel
theorem dX6_kindOf_11 : decode cX6_kindOf 11 = .ok (.getfield 9, 3) := by decide +kernel
theorem dX6_kindOf_14 : decode cX6_kindOf 14 = .ok (.iload_n 1, 1) := by decide +kernel
theorem dX6_kindOf_15 : decode cX6_kindOf 15 = .ok (.iaload, 1) := by decide +kernel
theorem dX6_kindOf_16 : decode cX6_kindOf 16 = .ok (.goto 4, 3) := by decide +kernel
theorem dX6_kindOf_19 : decode cX6_kindOf 19 = .ok (.iconst (-1), 1) := by decide +kernel
theorem dX6_kindOf_20 : decode cX6_kindOf 20 = .ok (.ireturn, 1) := by decide +kernel
theorem dX6_numberOf_0 : decode cX6_numberOf 0 = .ok (.iload_n 1, 1) := by decide +kernel
theorem dX6_numberOf_1 : decode cX6_numberOf 1 = .ok (.ifCond .lt 18, 3) := by decide +kernel
theorem dX6_numberOf_4 : decode cX6_numberOf 4 = .ok (.iload_n 1, 1) := by decide +kernel
theorem dX6_numberOf_5 : decode cX6_numberOf 5 = .ok (.bipush 40, 2) := by decide +kernel
theorem dX6_numberOf_7 : decode cX6_numberOf 7 = .ok (.if_icmp .ge 12, 3) := by decide +kernel
theorem dX6_numberOf_10 : decode cX6_numberOf 10 = .ok (.aload_n 0, 1) := by decide +kernel
theorem dX6_numberOf_11 : decode cX6_numberOf 11 = .ok (.getfield 15, 3) := by decide +kernel
theorem dX6_numberOf_14 : decode cX6_numberOf 14 = .ok (.iload_n 1, 1) := by decide +kernel
theorem dX6_numberOf_15 : decode cX6_numberOf 15 = .ok (.iaload, 1) := by decide +kernel
theorem dX6_numberOf_16 : decode cX6_numberOf 16 = .ok (.goto 4, 3) := by decide +kernel
theorem dX6_numberOf_19 : decode cX6_numberOf 19 = .ok (.iconst 0, 1) := by decide +kernel
theorem dX6_numberOf_20 : decode cX6_numberOf 20 = .ok (.ireturn, 1) := by decide +kernel
theorem dX2_replace_0 : decode cX2_replace 0 = .ok (.iload_n 1, 1) := by decide +kernel
theorem dX2_replace_1 : decode cX2_replace 1 = .ok (.ifCond .le 47, 3) := by decide +kernel
theorem dX2_replace_4 : decode cX2_replace 4 = .ok (.iload_n 1, 1) := by decide +kernel
theorem dX2_replace_5 : decode cX2_replace 5 = .ok (.aload_n 0, 1) := by decide +kernel
theorem dX2_replace_6 : decode cX2_replace 6 = .ok (.getfield 18, 3) := by decide +kernel
theorem dX2_replace_9 : decode cX2_replace 9 = .ok (.if_icmp .gt 39, 3) := by decide +kernel
theorem dX2_replace_12 : decode cX2_replace 12 = .ok (.aload_n 0, 1) := by decide +kernel
theorem dX2_replace_13 : decode cX2_replace 13 = .ok (.dup, 1) := by decide +kernel
theorem dX2_replace_14 : decode cX2_replace 14 = .ok (.getfield 18, 3) := by decide +kernel
theorem dX2_replace_17 : decode cX2_replace 17 = .ok (.iload_n 1, 1) := by decide +kernel
theorem dX2_replace_18 : decode cX2_replace 18 = .ok (.iconst 1, 1) := by decide +kernel
theorem dX2_replace_19 : decode cX2_replace 19 = .ok (.isub, 1) := by decide +kernel
theorem dX2_replace_20 : decode cX2_replace 20 = .ok (.isub, 1) := by decide +kernel
theorem dX2_replace_21 : decode cX2_replace 21 = .ok (.putfield 18, 3) := by decide +kernel
theorem dX2_replace_24 : decode cX2_replace 24 = .ok (.aload_n 0, 1) := by decide +kernel
theorem dX2_replace_25 : decode cX2_replace 25 = .ok (.getfield 9, 3) := by decide +kernel
theorem dX2_replace_28 : decode cX2_replace 28 = .ok (.aload_n 0, 1) := by decide +kernel
theorem dX2_replace_29 : decode cX2_replace 29 = .ok (.getfield 18, 3) := by decide +kernel
theorem dX2_replace_32 : decode cX2_replace 32 = .ok (.iconst 1, 1) := by decide +kernel
theorem dX2_replace_33 : decode cX2_replace 33 = .ok (.isub, 1) := by decide +kernel
theorem dX2_replace_34 : decode cX2_replace 34 = .ok (.iload_n 2, 1) := by decide +kernel
theorem dX2_replace_35 : decode cX2_replace 35 = .ok (.iastore, 1) := by decide +kernel
theorem dX2_replace_36 : decode cX2_replace 36 = .ok (.aload_n 0, 1) := by decide +kernel
theorem dX2_replace_37 : decode cX2_replace 37 = .ok (.getfield 15, 3) := by decide +kernel
theorem dX2_replace_40 : decode cX2_replace 40 = .ok (.aload_n 0, 1) := by decide +kernel
theorem dX2_replace_41 : decode cX2_replace 41 = .ok (.getfield 18, 3) := by decide +kernel
theorem dX2_replace_44 : decode cX2_replace 44 = .ok (.iconst 1, 1) := by decide +kernel
theorem dX2_replace_45 : decode cX2_replace 45 = .ok (.isub, 1) := by decide +kernel
theorem dX2_replace_46 : decode cX2_replace 46 = .ok (.iload_n 3, 1) := by decide +kernel
theorem dX2_replace_47 : decode cX2_replace 47 = .ok (.iastore, 1) := by decide +kernel
theorem dX2_replace_48 : decode cX2_replace 48 = .ok (.return_, 1) := by decide +kernel
theorem dX3_lookUp_0 : decode cX3_lookUp 0 = .ok (.aload_n 0, 1) := by decide +kernel
theorem dX3_lookUp_1 : decode cX3_lookUp 1 = .ok (.getfield 21, 3) := by decide +kernel
theorem dX3_lookUp_4 : decode cX3_lookUp 4 = .ok (.iload_n 1, 1) := by decide +kernel
theorem dX3_lookUp_5 : decode cX3_lookUp 5 = .ok (.invokevirtual 76, 3) := by decide +kernel
theorem dX3_lookUp_8 : decode cX3_lookUp 8 = .ok (.istore_n 2, 1) := by decide +kernel
theorem dX3_lookUp_9 : decode cX3_lookUp 9 = .ok (.iload_n 2, 1) := by decide +kernel
theorem dX3_lookUp_10 : decode cX3_lookUp 10 = .ok (.iconst (-1), 1) := by decide +kernel
theorem dX3_lookUp_11 : decode cX3_lookUp 11 = .ok (.if_icmp .ne 5, 3) := by decide +kernel
theorem dX3_lookUp_14 : decode cX3_lookUp 14 = .ok (.iconst 5, 1) := by decide +kernel
theorem dX3_lookUp_15 : decode cX3_lookUp 15 = .ok (.ireturn, 1) := by decide +kernel
theorem dX3_lookUp_16 : decode cX3_lookUp 16 = .ok (.aload_n 0, 1) := by decide +kernel
theorem dX3_lookUp_17 : decode cX3_lookUp 17 = .ok (.getfield 12, 3) := by decide +kernel
theorem dX3_lookUp_20 : decode cX3_lookUp 20 = .ok (.iconst 1, 1) := by decide +kernel
theorem dX3_lookUp_21 : decode cX3_lookUp 21 = .ok (.iload_n 2, 1) := by decide +kernel
theorem dX3_lookUp_22 : decode cX3_lookUp 22 = .ok (.aload_n 0, 1) := by decide +kernel
theorem dX3_lookUp_23 : decode cX3_lookUp 23 = .ok (.getfield 21, 3) := by decide +kernel
theorem dX3_lookUp_26 : decode cX3_lookUp 26 = .ok (.iload_n 1, 1) := by decide +kernel
theorem dX3_lookUp_27 : decode cX3_lookUp 27 = .ok (.invokevirtual 79, 3) := by decide +kernel
theorem dX3_lookUp_30 : decode cX3_lookUp 30 = .ok (.invokevirtual 40, 3) := by decide +kernel
theorem dX3_lookUp_33 : decode cX3_lookUp 33 = .ok (.iconst 0, 1) := by decide +kernel
theorem dX3_lookUp_34 : decode cX3_lookUp 34 = .ok (.ireturn, 1) := by decide +kernel
theorem dX6_give_0 : decode cX6_give 0 = .ok (.iload_n 1, 1) := by decide +kernel
theorem dX6_give_1 : decode cX6_give 1 = .ok (.ifCond .lt 23, 3) := by decide +kernel
theorem dX6_give_4 : decode cX6_give 4 = .ok (.iload_n 1, 1) := by decide +kernel
theorem dX6_give_5 : decode cX6_give 5 = .ok (.bipush 40, 2) := by decide +kernel
theorem dX6_give_7 : decode cX6_give 7 = .ok (.if_icmp .ge 17, 3) := by decide +kernel
theorem dX6_give_10 : decode cX6_give 10 = .ok (.aload_n 0, 1) := by decide +kernel
theorem dX6_give_11 : decode cX6_give 11 = .ok (.getfield 9, 3) := by decide +kernel
theorem dX6_give_14 : decode cX6_give 14 = .ok (.iload_n 1, 1) := by decide +kernel
theorem dX6_give_15 : decode cX6_give 15 = .ok (.iload_n 2, 1) := by decide +kernel
theorem dX6_give_16 : decode cX6_give 16 = .ok (.iastore, 1) := by decide +kernel
theorem dX6_give_17 : decode cX6_give 17 = .ok (.aload_n 0, 1) := by decide +kernel
theorem dX6_give_18 : decode cX6_give 18 = .ok (.getfield 15, 3) := by decide +kernel
theorem dX6_give_21 : decode cX6_give 21 = .ok (.iload_n 1, 1) := by decide +kernel
theorem dX6_give_22 : decode cX6_give 22 = .ok (.iload_n 3, 1) := by decide +kernel
theorem dX6_give_23 : decode cX6_give 23 = .ok (.iastore, 1) := by decide +kernel
theorem dX6_give_24 : decode cX6_give 24 = .ok (.return_, 1) := by decide +kernel
theorem dX3_define_0 : decode cX3_define 0 = .ok (.aload_n 0, 1) := by decide +kernel
theorem dX3_define_1 : decode cX3_define 1 = .ok (.getfield 21, 3) := by decide +kernel
theorem dX3_define_4 : decode cX3_define 4 = .ok (.aload_n 0, 1) := by decide +kernel
theorem dX3_define_5 : decode cX3_define 5 = .ok (.getfield 12, 3) := by decide +kernel
theorem dX3_define_8 : decode cX3_define 8 = .ok (.iconst 1, 1) := by decide +kernel
theorem dX3_define_9 : decode cX3_define 9 = .ok (.invokevirtual 25, 3) := by decide +kernel
theorem dX3_define_12 : decode cX3_define 12 = .ok (.aload_n 0, 1) := by decide +kernel
theorem dX3_define_13 : decode cX3_define 13 = .ok (.getfield 12, 3) := by decide +kernel
theorem dX3_define_16 : decode cX3_define 16 = .ok (.iconst 0, 1) := by decide +kernel
theorem dX3_define_17 : decode cX3_define 17 = .ok (.invokevirtual 48, 3) := by decide +kernel
theorem dX3_define_20 : decode cX3_define 20 = .ok (.aload_n 0, 1) := by decide +kernel
theorem dX3_define_21 : decode cX3_define 21 = .ok (.getfield 12, 3) := by decide +kernel
theorem dX3_define_24 : decode cX3_define 24 = .ok (.iconst 0, 1) := by decide +kernel
theorem dX3_define_25 : decode cX3_define 25 = .ok (.invokevirtual 25, 3) := by decide +kernel
theorem dX3_define_28 : decode cX3_define 28 = .ok (.invokevirtual 89, 3) := by decide +kernel
theorem dX3_define_31 : decode cX3_define 31 = .ok (.aload_n 0, 1) := by decide +kernel
theorem dX3_define_32 : decode cX3_define 32 = .ok (.getfield 12, 3) := by decide +kernel
theorem dX3_define_35 : decode cX3_define 35 = .ok (.iconst 2, 1) := by decide +kernel
theorem dX3_define_36 : decode cX3_define 36 = .ok (.invokevirtual 44, 3) := by decide +kernel
theorem dX3_define_39 : decode cX3_define 39 = .ok (.iconst 0, 1) := by decide +kernel
theorem dX3_define_40 : decode cX3_define 40 = .ok (.ireturn, 1) := by decide +kernel
theorem dX2_topmostMark_0 : decode cX2_topmostMark 0 = .ok (.aload_n 0, 1) := by decide +kernel
theorem dX2_topmostMark_1 : decode cX2_topmostMark 1 = .ok (.getfield 18, 3) := by decide +kernel
theorem dX2_topmostMark_4 : decode cX2_topmostMark 4 = .ok (.iconst 1, 1) := by decide +kernel
theorem dX2_topmostMark_5 : decode cX2_topmostMark 5 = .ok (.isub, 1) := by decide +kernel
theorem dX2_topmostMark_6 : decode cX2_topmostMark 6 = .ok (.istore_n 1, 1) := by decide +kernel
theorem dX2_topmostMark_7 : decode cX2_topmostMark 7 = .ok (.iload_n 1, 1) := by decide +kernel
theorem dX2_topmostMark_8 : decode cX2_topmostMark 8 = .ok (.ifCond .lt 21, 3) := by decide +kernel
theorem dX2_topmostMark_11 : decode cX2_topmostMark 11 = .ok (.aload_n 0, 1) := by decide +kernel
theorem dX2_topmostMark_12 : decode cX2_topmostMark 12 = .ok (.getfield 9, 3) := by decide +kernel
theorem dX2_topmostMark_15 : decode cX2_topmostMark 15 = .ok (.iload_n 1, 1) := by decide +kernel
theorem dX2_topmostMark_16 : decode cX2_topmostMark 16 = .ok (.iaload, 1) := by decide +kernel
theorem dX2_topmostMark_17 : decode cX2_topmostMark 17 = .ok (.iconst 3, 1) := by decide +kernel
theorem dX2_topmostMark_18 : decode cX2_topmostMark 18 = .ok (.if_icmp .ne 5, 3) := by decide +kernel
theorem dX2_topmostMark_21 : decode cX2_topmostMark 21 = .ok (.iload_n 1, 1) := by decide +kernel
theorem dX2_topmostMark_22 : decode cX2_topmostMark 22 = .ok (.ireturn, 1) := by decide +kernel
theorem dX2_topmostMark_23 : decode cX2_topmostMark 23 = .ok (.iinc 1 (-1), 3) := by decide +kernel
theorem dX2_topmostMark_26 : decode cX2_topmostMark 26 = .ok (.goto (-19), 3) := by decide +kernel
theorem dX2_topmostMark_29 : decode cX2_topmostMark 29 = .ok (.iconst (-1), 1) := by decide +kernel
theorem dX2_topmostMark_30 : decode cX2_topmostMark 30 = .ok (.ireturn, 1) := by decide +kernel
def fX7_turn_0_115 (S : St) : Option (Int32 × St) :=
    bnd (fX0_turnLoop_13 S) fun _ S1 =>
    bnd (fX0_topSubject_13 S1) fun r2 S2 =>
    bnd (fX0_add_13 (0 : Int32) r2 S2) fun _ S3 =>
    some (0, S3)
def fX7_turn_0_95 (q1 : Int32) (S : St) : Option (Int32 × St) :=
    if q1 = 0 then
      fX7_turn_0_115 S
    else
      bnd (fX0_loopNumber_13 S) fun r2 S2 =>
      bnd (fX2_put_5 (0 : Int32) r2 S2) fun r3 S3 =>
      fX7_turn_0_115 S3
def fX7_turn_0_34 (z0 : Int32) (S : St) : Option (Int32 × St) :=
    bnd (fX0_roomFor_13 (1 : Int32) S) fun r1 S1 =>
    if r1 = 0 then
      bnd (fX0_takeTop_13 S1) fun _ S3 =>
      bnd (fX7_arise_0 (8 : Int32) (-2 : Int32) S3) fun _ S4 =>
      some (0, S4)
    else
      if z0 = 0 then
        fX7_turn_0_95 z0 S1
      else
        bnd (fX2_full_5 S1) fun r6 S6 =>
        if r6 = 0 then
          fX7_turn_0_95 z0 S6
        else
          bnd (fX0_takeTop_13 S6) fun _ S8 =>
          bnd (fX7_arise_0 (2 : Int32) (-2 : Int32) S8) fun _ S9 =>
          some (0, S9)
def fX7_turn_0 (S : St) : Option (Int32 × St) :=
  bnd (fX0_loopIsOver_13 S) fun r1 S1 =>
  if r1 = 0 then
    bnd (fX0_topSort_13 S1) fun r3 S3 =>
    if r3 = (2 : Int32) then
      fX7_turn_0_34 (1 : Int32) S3
    else
      fX7_turn_0_34 (0 : Int32) S3
  else
    bnd (fX0_takeTop_13 S1) fun _ S5 =>
    some (0, S5)
def fX0_topPlace_13 (S : St) : Option (Int32 × St) :=
  if (S.1 13 6) ≤ 0 then
    some ((0 : Int32), S)
  else
    if vq ((S.1 13 6) - (1 : Int32)) 30 then
    some (S.1 16 ((S.1 13 6) - (1 : Int32)).toNatClampNeg, S)
    else none
def fX0_goBy_13 (S : St) : Option (Int32 × St) :=
  if (S.1 13 6) ≤ 0 then
    some (0, S)
  else
    if vq ((S.1 13 6) - (1 : Int32)) 30 then
    if vq ((S.1 13 6) - (1 : Int32)) 30 then
    stp (si S 16 ((S.1 13 6) - (1 : Int32)).toNatClampNeg ((S.1 16 ((S.1 13 6) - (1 : Int32)).toNatClampNeg) + (1 : Int32))) fun S3 =>
    some (0, S3)
    else none
    else none
def fX4_hasToken_1_17 (S : St) : Option (Int32 × St) :=
    some ((0 : Int32), S)
def fX4_hasToken_1 (p1 : Int32) (p2 : Int32) (S : St) : Option (Int32 × St) :=
  if p2 < 0 then
    fX4_hasToken_1_17 S
  else
    bnd (fX4_length_1 p1 S) fun r2 S2 =>
    if r2 ≤ p2 then
      fX4_hasToken_1_17 S2
    else
      some ((1 : Int32), S2)
def fX4_kindAt_1 (p1 : Int32) (p2 : Int32) (S : St) : Option (Int32 × St) :=
  bnd (fX4_hasToken_1 p1 p2 S) fun r1 S1 =>
  if r1 = 0 then
    some ((-1 : Int32), S1)
  else
    if vq ((p1 * (24 : Int32)) + p2) 480 then
    some (S1.1 2 ((p1 * (24 : Int32)) + p2).toNatClampNeg, S1)
    else none
def fX4_numberAt_1 (p1 : Int32) (p2 : Int32) (S : St) : Option (Int32 × St) :=
  bnd (fX4_hasToken_1 p1 p2 S) fun r1 S1 =>
  if r1 = 0 then
    some ((0 : Int32), S1)
  else
    if vq ((p1 * (24 : Int32)) + p2) 480 then
    some (S1.1 3 ((p1 * (24 : Int32)) + p2).toNatClampNeg, S1)
    else none
def fX2_kindUnder_5_28 (S : St) : Option (Int32 × St) :=
    some ((-1 : Int32), S)
def fX2_kindUnder_5 (p1 : Int32) (S : St) : Option (Int32 × St) :=
  if p1 < 0 then
    fX2_kindUnder_5_28 S
  else
    if (S.1 5 2) ≤ p1 then
      fX2_kindUnder_5_28 S
    else
      if vq (((S.1 5 2) - (1 : Int32)) - p1) 60 then
      some (S.1 6 (((S.1 5 2) - (1 : Int32)) - p1).toNatClampNeg, S)
      else none
def fX7_misfit_0_18 (tf : Nat → Int32) (S : St) : Option (Int32 × St) :=
    some ((4 : Int32), S)
def fX7_misfit_0_25 (tf : Nat → Int32) : Nat → Int32 → Int32 → Int32 → St → Option (Int32 × St)
  | 0, _, _, _, _ => none
  | n + 1, q2, q3, q4, S =>
    if (4 : Int32) ≤ q4 then
      some (q3, S)
    else
      if vq (q2 + q4) 112 then
      stv (tf (q2 + q4).toNatClampNeg) fun y3 =>
      if y3 = (-3 : Int32) then
        some (q3, S)
      else
        bnd (fX2_count_5 S) fun r5 S5 =>
        if q4 < r5 then
          if y3 = (-2 : Int32) then
            stv (q4 + 1) fun y8 =>
            fX7_misfit_0_25 tf n q2 q3 y8 S5
          else
            bnd (fX2_kindUnder_5 q4 S5) fun r9 S9 =>
            if r9 = y3 then
              stv (q4 + 1) fun y11 =>
              fX7_misfit_0_25 tf n q2 q3 y11 S9
            else
              stv (3 : Int32) fun y12 =>
              stv (q4 + 1) fun y13 =>
              fX7_misfit_0_25 tf n q2 y12 y13 S9
        else
          some ((1 : Int32), S5)
      else none
def fX7_misfit_0 (tf : Nat → Int32) (p1 : Int32) (S : St) : Option (Int32 × St) :=
  stv (p1 * (4 : Int32)) fun y1 =>
  if y1 < 0 then
    fX7_misfit_0_18 tf S
  else
    if y1 ≤ ((112 : Int32) - (4 : Int32)) then
      stv (0 : Int32) fun y4 =>
      stv (0 : Int32) fun y5 =>
      fX7_misfit_0_25 tf 500 y1 y4 y5 S
    else
      fX7_misfit_0_18 tf S
def fX2_numberUnder_5_28 (S : St) : Option (Int32 × St) :=
    some ((0 : Int32), S)
def fX2_numberUnder_5 (p1 : Int32) (S : St) : Option (Int32 × St) :=
  if p1 < 0 then
    fX2_numberUnder_5_28 S
  else
    if (S.1 5 2) ≤ p1 then
      fX2_numberUnder_5_28 S
    else
      if vq (((S.1 5 2) - (1 : Int32)) - p1) 60 then
      some (S.1 7 (((S.1 5 2) - (1 : Int32)) - p1).toNatClampNeg, S)
      else none
def fX6_kindOf_8_19 (S : St) : Option (Int32 × St) :=
    some ((-1 : Int32), S)
def fX6_kindOf_8 (p1 : Int32) (S : St) : Option (Int32 × St) :=
  if p1 < 0 then
    fX6_kindOf_8_19 S
  else
    if (40 : Int32) ≤ p1 then
      fX6_kindOf_8_19 S
    else
      if vq p1 40 then
      some (S.1 9 p1.toNatClampNeg, S)
      else none
def fX6_numberOf_8_19 (S : St) : Option (Int32 × St) :=
    some ((0 : Int32), S)
def fX6_numberOf_8 (p1 : Int32) (S : St) : Option (Int32 × St) :=
  if p1 < 0 then
    fX6_numberOf_8_19 S
  else
    if (40 : Int32) ≤ p1 then
      fX6_numberOf_8_19 S
    else
      if vq p1 40 then
      some (S.1 10 p1.toNatClampNeg, S)
      else none
def fX2_replace_5 (p1 : Int32) (p2 : Int32) (p3 : Int32) (S : St) : Option (Int32 × St) :=
  if p1 ≤ 0 then
    some (0, S)
  else
    if (S.1 5 2) < p1 then
      some (0, S)
    else
      stp (si S 5 2 ((S.1 5 2) - (p1 - (1 : Int32)))) fun S3 =>
      if vq ((S3.1 5 2) - (1 : Int32)) 60 then
      stp (si S3 6 ((S3.1 5 2) - (1 : Int32)).toNatClampNeg p2) fun S4 =>
      if vq ((S4.1 5 2) - (1 : Int32)) 60 then
      stp (si S4 7 ((S4.1 5 2) - (1 : Int32)).toNatClampNeg p3) fun S5 =>
      some (0, S5)
      else none
      else none
def fX3_lookUp_24 (p1 : Int32) (S : St) : Option (Int32 × St) :=
  bnd (fX6_kindOf_8 p1 S) fun r1 S1 =>
  if r1 = (-1 : Int32) then
    some ((5 : Int32), S1)
  else
    bnd (fX6_numberOf_8 p1 S1) fun r3 S3 =>
    bnd (fX2_replace_5 (1 : Int32) r1 r3 S3) fun _ S4 =>
    some ((0 : Int32), S4)
def fX6_give_8 (p1 : Int32) (p2 : Int32) (p3 : Int32) (S : St) : Option (Int32 × St) :=
  if p1 < 0 then
    some (0, S)
  else
    if (40 : Int32) ≤ p1 then
      some (0, S)
    else
      if vq p1 40 then
      stp (si S 9 p1.toNatClampNeg p2) fun S3 =>
      if vq p1 40 then
      stp (si S3 10 p1.toNatClampNeg p3) fun S4 =>
      some (0, S4)
      else none
      else none
def fX3_define_24 (S : St) : Option (Int32 × St) :=
  bnd (fX2_numberUnder_5 (1 : Int32) S) fun r1 S1 =>
  bnd (fX2_kindUnder_5 (0 : Int32) S1) fun r2 S2 =>
  bnd (fX2_numberUnder_5 (0 : Int32) S2) fun r3 S3 =>
  bnd (fX6_give_8 r1 r2 r3 S3) fun _ S4 =>
  bnd (fX2_takeOff_5 (2 : Int32) S4) fun _ S5 =>
  some ((0 : Int32), S5)
def fX2_topmostMark_5_7 : Nat → Int32 → St → Option (Int32 × St)
  | 0, _, _ => none
  | n + 1, q1, S =>
    if q1 < 0 then
      some ((-1 : Int32), S)
    else
      if vq q1 60 then
      if (S.1 6 q1.toNatClampNeg) = (3 : Int32) then
        some (q1, S)
      else
        stv (q1 + (-1)) fun y4 =>
        fX2_topmostMark_5_7 n y4 S
      else none
def fX2_topmostMark_5 (S : St) : Option (Int32 × St) :=
  stv ((S.1 5 2) - (1 : Int32)) fun y1 =>
  fX2_topmostMark_5_7 500 y1 S
set_option maxRecDepth 100000 in
set_option maxHeartbeats 4000000 in
theorem rX7_turn_0_115 {p : Program} {l : Launch} {e : Env} {s : State} {m : MethodId} {args : Array Value} {below : List Frame} {meth : Method} {c : Code} {D : va_G} {a : Nat → Nat} {cI cJ : ClassId} {tk : Nat} {tf : Nat → Int32} (C : Cx p s m args meth c RX7 cX7_turn 2 D cI cJ tk tf (AR a 25 s.heap.size)) (hr : meth.sig.returnType = none) : ∀ (S : St) (x : Int32 × St) (H : Heap) (locs : List Loc) (ls : Array Slot), fX7_turn_0_115 S = some x → Wd D (wE a cI cJ) (AR a 25 s.heap.size) s S H locs → lv_has ls 2 [(0, .ref (a 0))] → W p l e { frames := 3, cells := 0, slots := 0, locals := 70 } s m args below meth c H locs 0 0 (MQ below (Qv D (wE a cI cJ) (AR a 25 s.heap.size) x) args s 0 0 (AR a 25 s.heap.size)) (F0 m 115 ls []) := by
  intro S x H locs ls hf G hl
  unfold fX7_turn_0_115 at hf
  refine lv_aload_n C.1 C.2.1 dX7_turn_115 rfl (lv_at hl 0 rfl) ?_
  refine gE_0_5 C G k_226 dX7_turn_116 ?_
  obtain ⟨r1, S1, eS1, hf⟩ := bnd_e hf
  refine r_calv (As := []) (na := 0) C adE G (mX0_turnLoop_13 l D a cI cJ tk tf S _ eS1) k_578 k_579 k_580 k_66 k_581 (q0 := 13) rfl (ci := 0) rfl (by decide +kernel) ⟨Nat.le_of_ble_eq_true rfl, Nat.le_of_ble_eq_true rfl⟩ rfl rfl ⟨Nat.zero_le _, Nat.zero_le _⟩ rfl hl.1 rfl (Nat.le_of_ble_eq_true rfl) dX7_turn_119 (fun H locs G => ?_)
  refine lv_aload_n C.1 C.2.1 dX7_turn_122 rfl (lv_at hl 0 rfl) ?_
  refine gE_0_5 C G k_226 dX7_turn_123 ?_
  refine lv_iconst (v := 0) C.1 C.2.1 dX7_turn_126 (by decide) ?_
  refine lv_aload_n C.1 C.2.1 dX7_turn_127 rfl (lv_at hl 0 rfl) ?_
  refine gE_0_5 C G k_226 dX7_turn_128 ?_
  obtain ⟨r2, S2, eS2, hf⟩ := bnd_e hf
  refine r_cali (As := []) (na := 0) C adE G (mX0_topSubject_13 l D a cI cJ tk tf S1 _ eS2) k_332 k_333 k_334 k_66 k_335 (q0 := 13) rfl (ci := 0) rfl (by decide +kernel) ⟨Nat.le_of_ble_eq_true rfl, Nat.le_of_ble_eq_true rfl⟩ rfl rfl ⟨Nat.zero_le _, Nat.zero_le _⟩ rfl hl.1 rfl (Nat.le_of_ble_eq_true rfl) dX7_turn_131 (fun H locs G => ?_)
  obtain ⟨r3, S3, eS3, hf⟩ := bnd_e hf
  refine r_calv (As := [.int (0 : Int32), .int r2]) (na := 2) C adE G (mX0_add_13 l D a cI cJ tk tf (0 : Int32) r2 S2 _ eS3) k_390 k_313 k_314 k_66 k_315 (q0 := 13) rfl (ci := 0) rfl (by decide +kernel) ⟨Nat.le_of_ble_eq_true rfl, Nat.le_of_ble_eq_true rfl⟩ rfl rfl ⟨Nat.zero_le _, Nat.zero_le _⟩ rfl hl.1 rfl (Nat.le_of_ble_eq_true rfl) dX7_turn_134 (fun H locs G => ?_)
  exact r_vret C hr G hf dX7_turn_137
set_option maxRecDepth 100000 in
set_option maxHeartbeats 4000000 in
theorem rX7_turn_0_95 {p : Program} {l : Launch} {e : Env} {s : State} {m : MethodId} {args : Array Value} {below : List Frame} {meth : Method} {c : Code} {D : va_G} {a : Nat → Nat} {cI cJ : ClassId} {tk : Nat} {tf : Nat → Int32} (C : Cx p s m args meth c RX7 cX7_turn 2 D cI cJ tk tf (AR a 25 s.heap.size)) (hr : meth.sig.returnType = none) : ∀ (q1 : Int32) (S : St) (x : Int32 × St) (H : Heap) (locs : List Loc) (ls : Array Slot), fX7_turn_0_95 q1 S = some x → Wd D (wE a cI cJ) (AR a 25 s.heap.size) s S H locs → lv_has ls 2 [(0, .ref (a 0)), (1, .int q1)] → W p l e { frames := 3, cells := 0, slots := 0, locals := 70 } s m args below meth c H locs 0 0 (MQ below (Qv D (wE a cI cJ) (AR a 25 s.heap.size) x) args s 0 0 (AR a 25 s.heap.size)) (F0 m 95 ls []) := by
  intro q1 S x H locs ls hf G hl
  unfold fX7_turn_0_95 at hf
  refine lv_iload_n C.1 C.2.1 dX7_turn_95 rfl (lv_at hl 1 rfl) ?_
  refine lv_if_eq (tgt := 115) C.1 C.2.1 dX7_turn_96 (by decide) (fun c1 => ?_) (fun c1 => ?_)
  · replace hf := ifp c1 hf
    exact rX7_turn_0_115 C hr S _ _ _ _ hf G (lv_sub hl [0] rfl)
  · replace hf := ifq c1 hf
    refine lv_aload_n C.1 C.2.1 dX7_turn_99 rfl (lv_at hl 0 rfl) ?_
    refine gE_0_2 C G k_223 dX7_turn_100 ?_
    refine lv_iconst (v := 0) C.1 C.2.1 dX7_turn_103 (by decide) ?_
    refine lv_aload_n C.1 C.2.1 dX7_turn_104 rfl (lv_at hl 0 rfl) ?_
    refine gE_0_5 C G k_226 dX7_turn_105 ?_
    obtain ⟨r2, S2, eS2, hf⟩ := bnd_e hf
    refine r_cali (As := []) (na := 0) C adE G (mX0_loopNumber_13 l D a cI cJ tk tf S _ eS2) k_574 k_575 k_576 k_66 k_577 (q0 := 13) rfl (ci := 0) rfl (by decide +kernel) ⟨Nat.le_of_ble_eq_true rfl, Nat.le_of_ble_eq_true rfl⟩ rfl rfl ⟨Nat.zero_le _, Nat.zero_le _⟩ rfl hl.1 rfl (Nat.le_of_ble_eq_true rfl) dX7_turn_108 (fun H locs G => ?_)
    obtain ⟨r3, S3, eS3, hf⟩ := bnd_e hf
    refine r_cali (As := [.int (0 : Int32), .int r2]) (na := 2) C adE G (mX2_put_5 l D a cI cJ tk tf (0 : Int32) r2 S2 _ eS3) k_288 k_289 k_290 k_62 k_291 (q0 := 5) rfl (ci := 2) rfl (by decide +kernel) ⟨Nat.le_of_ble_eq_true rfl, Nat.le_of_ble_eq_true rfl⟩ rfl rfl ⟨Nat.zero_le _, Nat.zero_le _⟩ rfl hl.1 rfl (Nat.le_of_ble_eq_true rfl) dX7_turn_111 (fun H locs G => ?_)
    refine lv_pop C.1 C.2.1 dX7_turn_114 rfl ?_
    exact rX7_turn_0_115 C hr S3 _ _ _ _ hf G (lv_sub hl [0] rfl)
set_option maxRecDepth 100000 in
set_option maxHeartbeats 4000000 in
theorem rX7_turn_0_34 {p : Program} {l : Launch} {e : Env} {s : State} {m : MethodId} {args : Array Value} {below : List Frame} {meth : Method} {c : Code} {D : va_G} {a : Nat → Nat} {cI cJ : ClassId} {tk : Nat} {tf : Nat → Int32} (C : Cx p s m args meth c RX7 cX7_turn 2 D cI cJ tk tf (AR a 25 s.heap.size)) (hr : meth.sig.returnType = none) : ∀ (z0 : Int32) (S : St) (x : Int32 × St) (H : Heap) (locs : List Loc) (ls : Array Slot), fX7_turn_0_34 z0 S = some x → Wd D (wE a cI cJ) (AR a 25 s.heap.size) s S H locs → lv_has ls 2 [(0, .ref (a 0))] → W p l e { frames := 3, cells := 0, slots := 0, locals := 70 } s m args below meth c H locs 0 0 (MQ below (Qv D (wE a cI cJ) (AR a 25 s.heap.size) x) args s 0 0 (AR a 25 s.heap.size)) (F0 m 34 ls [.int z0]) := by
  intro z0 S x H locs ls hf G hl
  unfold fX7_turn_0_34 at hf
  refine lv_istore_n (lv' := [(1, .int z0), (0, .ref (a 0))]) C.1 C.2.1 dX7_turn_34 rfl hl (by decide) rfl (fun ls hl => ?_)
  refine lv_aload_n C.1 C.2.1 dX7_turn_35 rfl (lv_at hl 1 rfl) ?_
  refine gE_0_5 C G k_226 dX7_turn_36 ?_
  refine lv_iconst (v := 1) C.1 C.2.1 dX7_turn_39 (by decide) ?_
  obtain ⟨r1, S1, eS1, hf⟩ := bnd_e hf
  refine r_cali (As := [.int (1 : Int32)]) (na := 1) C adE G (mX0_roomFor_13 l D a cI cJ tk tf (1 : Int32) S _ eS1) k_386 k_387 k_388 k_66 k_389 (q0 := 13) rfl (ci := 0) rfl (by decide +kernel) ⟨Nat.le_of_ble_eq_true rfl, Nat.le_of_ble_eq_true rfl⟩ rfl rfl ⟨Nat.zero_le _, Nat.zero_le _⟩ rfl hl.1 rfl (Nat.le_of_ble_eq_true rfl) dX7_turn_40 (fun H locs G => ?_)
  refine lv_if_ne (tgt := 64) C.1 C.2.1 dX7_turn_43 (by decide) (fun c2 => ?_) (fun c2 => ?_)
  · replace hf := ifq c2 hf
    refine lv_iload_n C.1 C.2.1 dX7_turn_64 rfl (lv_at hl 0 rfl) ?_
    refine lv_if_eq (tgt := 95) C.1 C.2.1 dX7_turn_65 (by decide) (fun c5 => ?_) (fun c5 => ?_)
    · replace hf := ifp c5 hf
      exact rX7_turn_0_95 C hr z0 S1 _ _ _ _ hf G (lv_sub hl [1, 0] rfl)
    · replace hf := ifq c5 hf
      refine lv_aload_n C.1 C.2.1 dX7_turn_68 rfl (lv_at hl 1 rfl) ?_
      refine gE_0_2 C G k_223 dX7_turn_69 ?_
      obtain ⟨r6, S6, eS6, hf⟩ := bnd_e hf
      refine r_cali (As := []) (na := 0) C adE G (mX2_full_5 l D a cI cJ tk tf S1 _ eS6) k_449 k_450 k_451 k_62 k_452 (q0 := 5) rfl (ci := 2) rfl (by decide +kernel) ⟨Nat.le_of_ble_eq_true rfl, Nat.le_of_ble_eq_true rfl⟩ rfl rfl ⟨Nat.zero_le _, Nat.zero_le _⟩ rfl hl.1 rfl (Nat.le_of_ble_eq_true rfl) dX7_turn_72 (fun H locs G => ?_)
      refine lv_if_eq (tgt := 95) C.1 C.2.1 dX7_turn_75 (by decide) (fun c7 => ?_) (fun c7 => ?_)
      · replace hf := ifp c7 hf
        exact rX7_turn_0_95 C hr z0 S6 _ _ _ _ hf G (lv_sub hl [1, 0] rfl)
      · replace hf := ifq c7 hf
        refine lv_aload_n C.1 C.2.1 dX7_turn_78 rfl (lv_at hl 1 rfl) ?_
        refine gE_0_5 C G k_226 dX7_turn_79 ?_
        obtain ⟨r8, S8, eS8, hf⟩ := bnd_e hf
        refine r_calv (As := []) (na := 0) C adE G (mX0_takeTop_13 l D a cI cJ tk tf S6 _ eS8) k_340 k_341 k_342 k_66 k_343 (q0 := 13) rfl (ci := 0) rfl (by decide +kernel) ⟨Nat.le_of_ble_eq_true rfl, Nat.le_of_ble_eq_true rfl⟩ rfl rfl ⟨Nat.zero_le _, Nat.zero_le _⟩ rfl hl.1 rfl (Nat.le_of_ble_eq_true rfl) dX7_turn_82 (fun H locs G => ?_)
        refine lv_aload_n C.1 C.2.1 dX7_turn_85 rfl (lv_at hl 1 rfl) ?_
        refine lv_iconst (v := 2) C.1 C.2.1 dX7_turn_86 (by decide) ?_
        refine lv_bipush (v := (-2)) C.1 C.2.1 dX7_turn_87 (by decide) ?_
        obtain ⟨r9, S9, eS9, hf⟩ := bnd_e hf
        refine r_calv (As := [.int (2 : Int32), .int (-2 : Int32)]) (na := 2) C adE G (mX7_arise_0 l D a cI cJ tk tf (2 : Int32) (-2 : Int32) S8 _ eS9) k_546 k_548 k_26 k_59 k_549 (q0 := 0) rfl (ci := 7) rfl (by decide +kernel) ⟨Nat.le_of_ble_eq_true rfl, Nat.le_of_ble_eq_true rfl⟩ rfl rfl ⟨Nat.zero_le _, Nat.zero_le _⟩ rfl hl.1 rfl (Nat.le_of_ble_eq_true rfl) dX7_turn_89 (fun H locs G => ?_)
        refine lv_goto (tgt := 137) C.1 C.2.1 dX7_turn_92 (by decide) ?_
        exact r_vret C hr G hf dX7_turn_137
  · replace hf := ifp c2 hf
    refine lv_aload_n C.1 C.2.1 dX7_turn_46 rfl (lv_at hl 1 rfl) ?_
    refine gE_0_5 C G k_226 dX7_turn_47 ?_
    obtain ⟨r3, S3, eS3, hf⟩ := bnd_e hf
    refine r_calv (As := []) (na := 0) C adE G (mX0_takeTop_13 l D a cI cJ tk tf S1 _ eS3) k_340 k_341 k_342 k_66 k_343 (q0 := 13) rfl (ci := 0) rfl (by decide +kernel) ⟨Nat.le_of_ble_eq_true rfl, Nat.le_of_ble_eq_true rfl⟩ rfl rfl ⟨Nat.zero_le _, Nat.zero_le _⟩ rfl hl.1 rfl (Nat.le_of_ble_eq_true rfl) dX7_turn_50 (fun H locs G => ?_)
    refine lv_aload_n C.1 C.2.1 dX7_turn_53 rfl (lv_at hl 1 rfl) ?_
    refine lv_bipush (v := 8) C.1 C.2.1 dX7_turn_54 (by decide) ?_
    refine lv_bipush (v := (-2)) C.1 C.2.1 dX7_turn_56 (by decide) ?_
    obtain ⟨r4, S4, eS4, hf⟩ := bnd_e hf
    refine r_calv (As := [.int (8 : Int32), .int (-2 : Int32)]) (na := 2) C adE G (mX7_arise_0 l D a cI cJ tk tf (8 : Int32) (-2 : Int32) S3 _ eS4) k_546 k_548 k_26 k_59 k_549 (q0 := 0) rfl (ci := 7) rfl (by decide +kernel) ⟨Nat.le_of_ble_eq_true rfl, Nat.le_of_ble_eq_true rfl⟩ rfl rfl ⟨Nat.zero_le _, Nat.zero_le _⟩ rfl hl.1 rfl (Nat.le_of_ble_eq_true rfl) dX7_turn_58 (fun H locs G => ?_)
    refine lv_goto (tgt := 137) C.1 C.2.1 dX7_turn_61 (by decide) ?_
    exact r_vret C hr G hf dX7_turn_137
set_option maxRecDepth 100000 in
set_option maxHeartbeats 4000000 in
theorem mX7_turn_0 (l : Launch) (D : va_G) (a : Nat → Nat) (cI cJ : ClassId) (tk : Nat) (tf : Nat → Int32) (S : St) (x : Int32 × St) (hf : fX7_turn_0 S = some x) : Mv l D (wE a cI cJ) a 25 cI cJ tk tf yX7_turn cX7_turn 2 { frames := 3, cells := 0, slots := 0, locals := 70 } [.ref (a 0)] S x := by
  refine opn_v (by decide +kernel) (Nat.le_of_ble_eq_true rfl) (fun p e s m below meth c C hr G ls hl => ?_)
  replace hl : lv_has ls 2 [(0, .ref (a 0))] := hl
  unfold fX7_turn_0 at hf
  refine lv_aload_n C.1 C.2.1 dX7_turn_0 rfl (lv_at hl 0 rfl) ?_
  refine gE_0_5 C G k_226 dX7_turn_1 ?_
  obtain ⟨r1, S1, eS1, hf⟩ := bnd_e hf
  refine r_cali (As := []) (na := 0) C adE G (mX0_loopIsOver_13 l D a cI cJ tk tf S _ eS1) k_570 k_571 k_572 k_66 k_573 (q0 := 13) rfl (ci := 0) rfl (by decide +kernel) ⟨Nat.le_of_ble_eq_true rfl, Nat.le_of_ble_eq_true rfl⟩ rfl rfl ⟨Nat.zero_le _, Nat.zero_le _⟩ rfl hl.1 rfl (Nat.le_of_ble_eq_true rfl) dX7_turn_4 (fun H locs G => ?_)
  refine lv_if_eq (tgt := 18) C.1 C.2.1 dX7_turn_7 (by decide) (fun c2 => ?_) (fun c2 => ?_)
  · replace hf := ifp c2 hf
    refine lv_aload_n C.1 C.2.1 dX7_turn_18 rfl (lv_at hl 0 rfl) ?_
    refine gE_0_5 C G k_226 dX7_turn_19 ?_
    obtain ⟨r3, S3, eS3, hf⟩ := bnd_e hf
    refine r_cali (As := []) (na := 0) C adE G (mX0_topSort_13 l D a cI cJ tk tf S1 _ eS3) k_324 k_325 k_326 k_66 k_327 (q0 := 13) rfl (ci := 0) rfl (by decide +kernel) ⟨Nat.le_of_ble_eq_true rfl, Nat.le_of_ble_eq_true rfl⟩ rfl rfl ⟨Nat.zero_le _, Nat.zero_le _⟩ rfl hl.1 rfl (Nat.le_of_ble_eq_true rfl) dX7_turn_22 (fun H locs G => ?_)
    refine lv_iconst (v := 2) C.1 C.2.1 dX7_turn_25 (by decide) ?_
    refine lv_icmp_ne (tgt := 33) C.1 C.2.1 dX7_turn_26 (by decide) (fun c4 => ?_) (fun c4 => ?_)
    · replace hf := ifq c4 hf
      refine lv_iconst (v := 0) C.1 C.2.1 dX7_turn_33 (by decide) ?_
      exact rX7_turn_0_34 C hr (0 : Int32) S3 _ _ _ _ hf G (lv_sub hl [0] rfl)
    · replace hf := ifp c4 hf
      refine lv_iconst (v := 1) C.1 C.2.1 dX7_turn_29 (by decide) ?_
      refine lv_goto (tgt := 34) C.1 C.2.1 dX7_turn_30 (by decide) ?_
      exact rX7_turn_0_34 C hr (1 : Int32) S3 _ _ _ _ hf G (lv_sub hl [0] rfl)
  · replace hf := ifq c2 hf
    refine lv_aload_n C.1 C.2.1 dX7_turn_10 rfl (lv_at hl 0 rfl) ?_
    refine gE_0_5 C G k_226 dX7_turn_11 ?_
    obtain ⟨r5, S5, eS5, hf⟩ := bnd_e hf
    refine r_calv (As := []) (na := 0) C adE G (mX0_takeTop_13 l D a cI cJ tk tf S1 _ eS5) k_340 k_341 k_342 k_66 k_343 (q0 := 13) rfl (ci := 0) rfl (by decide +kernel) ⟨Nat.le_of_ble_eq_true rfl, Nat.le_of_ble_eq_true rfl⟩ rfl rfl ⟨Nat.zero_le _, Nat.zero_le _⟩ rfl hl.1 rfl (Nat.le_of_ble_eq_true rfl) dX7_turn_14 (fun H locs G => ?_)
    exact r_vret C hr G hf dX7_turn_17
set_option maxRecDepth 100000 in
set_option maxHeartbeats 4000000 in
theorem mX0_topPlace_13 (l : Launch) (D : va_G) (a : Nat → Nat) (cI cJ : ClassId) (tk : Nat) (tf : Nat → Int32) (S : St) (x : Int32 × St) (hf : fX0_topPlace_13 S = some x) : Mi l D (wE a cI cJ) a 25 cI cJ tk tf yX0_topPlace cX0_topPlace 1 (some .int) { frames := 0, cells := 0, slots := 0, locals := 0 } [.ref (a 13)] S x := by
  refine opn_i (by decide +kernel) (Nat.le_of_ble_eq_true rfl) (fun p e s m below meth c C hr G ls hl => ?_)
  replace hl : lv_has ls 1 [(0, .ref (a 13))] := hl
  unfold fX0_topPlace_13 at hf
  refine lv_aload_n C.1 C.2.1 dX0_topPlace_0 rfl (lv_at hl 0 rfl) ?_
  refine gE_13_6 C G k_174 dX0_topPlace_1 ?_
  refine lv_if_le (tgt := 21) C.1 C.2.1 dX0_topPlace_4 (by decide) (fun c1 => ?_) (fun c1 => ?_)
  · replace hf := ifp c1 hf
    refine lv_iconst (v := 0) C.1 C.2.1 dX0_topPlace_21 (by decide) ?_
    exact r_iret C hr G hf dX0_topPlace_22
  · replace hf := ifq c1 hf
    refine lv_aload_n C.1 C.2.1 dX0_topPlace_7 rfl (lv_at hl 0 rfl) ?_
    refine gE_13_2 C G k_170 dX0_topPlace_8 ?_
    refine lv_aload_n C.1 C.2.1 dX0_topPlace_11 rfl (lv_at hl 0 rfl) ?_
    refine gE_13_6 C G k_174 dX0_topPlace_12 ?_
    refine lv_iconst (v := 1) C.1 C.2.1 dX0_topPlace_15 (by decide) ?_
    refine lv_isub C.1 C.2.1 dX0_topPlace_16 ?_
    obtain ⟨hi2, hf⟩ := ifn hf
    refine aE_16 C G hi2 dX0_topPlace_17 ?_
    refine lv_goto (tgt := 22) C.1 C.2.1 dX0_topPlace_18 (by decide) ?_
    exact r_iret C hr G hf dX0_topPlace_22
set_option maxRecDepth 100000 in
set_option maxHeartbeats 4000000 in
theorem mX0_goBy_13 (l : Launch) (D : va_G) (a : Nat → Nat) (cI cJ : ClassId) (tk : Nat) (tf : Nat → Int32) (S : St) (x : Int32 × St) (hf : fX0_goBy_13 S = some x) : Mv l D (wE a cI cJ) a 25 cI cJ tk tf yX0_goBy cX0_goBy 1 { frames := 0, cells := 0, slots := 0, locals := 0 } [.ref (a 13)] S x := by
  refine opn_v (by decide +kernel) (Nat.le_of_ble_eq_true rfl) (fun p e s m below meth c C hr G ls hl => ?_)
  replace hl : lv_has ls 1 [(0, .ref (a 13))] := hl
  unfold fX0_goBy_13 at hf
  refine lv_aload_n C.1 C.2.1 dX0_goBy_0 rfl (lv_at hl 0 rfl) ?_
  refine gE_13_6 C G k_174 dX0_goBy_1 ?_
  refine lv_if_le (tgt := 22) C.1 C.2.1 dX0_goBy_4 (by decide) (fun c1 => ?_) (fun c1 => ?_)
  · replace hf := ifp c1 hf
    exact r_vret C hr G hf dX0_goBy_22
  · replace hf := ifq c1 hf
    refine lv_aload_n C.1 C.2.1 dX0_goBy_7 rfl (lv_at hl 0 rfl) ?_
    refine gE_13_2 C G k_170 dX0_goBy_8 ?_
    refine lv_aload_n C.1 C.2.1 dX0_goBy_11 rfl (lv_at hl 0 rfl) ?_
    refine gE_13_6 C G k_174 dX0_goBy_12 ?_
    refine lv_iconst (v := 1) C.1 C.2.1 dX0_goBy_15 (by decide) ?_
    refine lv_isub C.1 C.2.1 dX0_goBy_16 ?_
    refine lv_dup2_11 C.1 C.2.1 dX0_goBy_17 rfl rfl ?_
    obtain ⟨hi2, hf⟩ := ifn hf
    refine aE_16 C G hi2 dX0_goBy_18 ?_
    refine lv_iconst (v := 1) C.1 C.2.1 dX0_goBy_19 (by decide) ?_
    refine lv_iadd C.1 C.2.1 dX0_goBy_20 ?_
    obtain ⟨hi3, hf⟩ := ifn hf
    refine sE_16 C G hi3 dX0_goBy_21 (fun H locs G => ?_)
    obtain ⟨S3, eS3, hf⟩ := stp_e hf
    rw [← eS3] at G
    clear eS3
    exact r_vret C hr G hf dX0_goBy_22
set_option maxRecDepth 100000 in
set_option maxHeartbeats 4000000 in
theorem rX4_hasToken_1_17 {p : Program} {l : Launch} {e : Env} {s : State} {m : MethodId} {args : Array Value} {below : List Frame} {meth : Method} {c : Code} {D : va_G} {a : Nat → Nat} {cI cJ : ClassId} {tk : Nat} {tf : Nat → Int32} (C : Cx p s m args meth c RX4 cX4_hasToken 3 D cI cJ tk tf (AR a 25 s.heap.size)) (hr : meth.sig.returnType = (some .boolean)) : ∀ (S : St) (x : Int32 × St) (H : Heap) (locs : List Loc) (ls : Array Slot), fX4_hasToken_1_17 S = some x → Wd D (wE a cI cJ) (AR a 25 s.heap.size) s S H locs → lv_has ls 3 [] → W p l e { frames := 1, cells := 0, slots := 0, locals := 21 } s m args below meth c H locs 0 0 (MQ below (Qi D (wE a cI cJ) (AR a 25 s.heap.size) x) args s 0 0 (AR a 25 s.heap.size)) (F0 m 17 ls []) := by
  intro S x H locs ls hf G hl
  unfold fX4_hasToken_1_17 at hf
  refine lv_iconst (v := 0) C.1 C.2.1 dX4_hasToken_17 (by decide) ?_
  exact r_zret C hr (Or.inl rfl) G hf dX4_hasToken_18
set_option maxRecDepth 100000 in
set_option maxHeartbeats 4000000 in
theorem mX4_hasToken_1 (l : Launch) (D : va_G) (a : Nat → Nat) (cI cJ : ClassId) (tk : Nat) (tf : Nat → Int32) (p1 : Int32) (p2 : Int32) (S : St) (x : Int32 × St) (hf : fX4_hasToken_1 p1 p2 S = some x) : Mi l D (wE a cI cJ) a 25 cI cJ tk tf yX4_hasToken cX4_hasToken 3 (some .boolean) { frames := 1, cells := 0, slots := 0, locals := 21 } [.ref (a 1), .int p1, .int p2] S x := by
  refine opn_i (by decide +kernel) (Nat.le_of_ble_eq_true rfl) (fun p e s m below meth c C hr G ls hl => ?_)
  replace hl : lv_has ls 3 [(0, .ref (a 1)), (1, .int p1), (2, .int p2)] := hl
  unfold fX4_hasToken_1 at hf
  refine lv_iload_n C.1 C.2.1 dX4_hasToken_0 rfl (lv_at hl 2 rfl) ?_
  refine lv_if_lt (tgt := 17) C.1 C.2.1 dX4_hasToken_1 (by decide) (fun c1 => ?_) (fun c1 => ?_)
  · replace hf := ifp c1 hf
    exact rX4_hasToken_1_17 C hr S _ _ _ _ hf G (lv_sub hl [] rfl)
  · replace hf := ifq c1 hf
    refine lv_iload_n C.1 C.2.1 dX4_hasToken_4 rfl (lv_at hl 2 rfl) ?_
    refine lv_aload_n C.1 C.2.1 dX4_hasToken_5 rfl (lv_at hl 0 rfl) ?_
    refine lv_iload_n C.1 C.2.1 dX4_hasToken_6 rfl (lv_at hl 1 rfl) ?_
    obtain ⟨r2, S2, eS2, hf⟩ := bnd_e hf
    refine r_cali (As := [.int p1]) (na := 1) C adE G (mX4_length_1 l D a cI cJ tk tf p1 S _ eS2) k_283 k_267 k_268 k_60 k_269 (q0 := 1) rfl (ci := 4) rfl (by decide +kernel) ⟨Nat.le_of_ble_eq_true rfl, Nat.le_of_ble_eq_true rfl⟩ rfl rfl ⟨Nat.zero_le _, Nat.zero_le _⟩ rfl hl.1 rfl (Nat.le_of_ble_eq_true rfl) dX4_hasToken_7 (fun H locs G => ?_)
    refine lv_icmp_ge (tgt := 17) C.1 C.2.1 dX4_hasToken_10 (by decide) (fun c3 => ?_) (fun c3 => ?_)
    · replace hf := ifp c3 hf
      exact rX4_hasToken_1_17 C hr S2 _ _ _ _ hf G (lv_sub hl [] rfl)
    · replace hf := ifq c3 hf
      refine lv_iconst (v := 1) C.1 C.2.1 dX4_hasToken_13 (by decide) ?_
      refine lv_goto (tgt := 18) C.1 C.2.1 dX4_hasToken_14 (by decide) ?_
      exact r_zret C hr (Or.inr rfl) G hf dX4_hasToken_18
set_option maxRecDepth 100000 in
set_option maxHeartbeats 4000000 in
theorem mX4_kindAt_1 (l : Launch) (D : va_G) (a : Nat → Nat) (cI cJ : ClassId) (tk : Nat) (tf : Nat → Int32) (p1 : Int32) (p2 : Int32) (S : St) (x : Int32 × St) (hf : fX4_kindAt_1 p1 p2 S = some x) : Mi l D (wE a cI cJ) a 25 cI cJ tk tf yX4_kindAt cX4_kindAt 3 (some .int) { frames := 2, cells := 0, slots := 0, locals := 43 } [.ref (a 1), .int p1, .int p2] S x := by
  refine opn_i (by decide +kernel) (Nat.le_of_ble_eq_true rfl) (fun p e s m below meth c C hr G ls hl => ?_)
  replace hl : lv_has ls 3 [(0, .ref (a 1)), (1, .int p1), (2, .int p2)] := hl
  unfold fX4_kindAt_1 at hf
  refine lv_aload_n C.1 C.2.1 dX4_kindAt_0 rfl (lv_at hl 0 rfl) ?_
  refine lv_iload_n C.1 C.2.1 dX4_kindAt_1 rfl (lv_at hl 1 rfl) ?_
  refine lv_iload_n C.1 C.2.1 dX4_kindAt_2 rfl (lv_at hl 2 rfl) ?_
  obtain ⟨r1, S1, eS1, hf⟩ := bnd_e hf
  refine r_cali (As := [.int p1, .int p2]) (na := 2) C adE G (mX4_hasToken_1 l D a cI cJ tk tf p1 p2 S _ eS1) k_352 k_354 k_2 k_60 k_355 (q0 := 1) rfl (ci := 4) rfl (by decide +kernel) ⟨Nat.le_of_ble_eq_true rfl, Nat.le_of_ble_eq_true rfl⟩ rfl rfl ⟨Nat.zero_le _, Nat.zero_le _⟩ rfl hl.1 rfl (Nat.le_of_ble_eq_true rfl) dX4_kindAt_3 (fun H locs G => ?_)
  refine lv_if_eq (tgt := 23) C.1 C.2.1 dX4_kindAt_6 (by decide) (fun c2 => ?_) (fun c2 => ?_)
  · replace hf := ifp c2 hf
    refine lv_iconst (v := (-1)) C.1 C.2.1 dX4_kindAt_23 (by decide) ?_
    exact r_iret C hr G hf dX4_kindAt_24
  · replace hf := ifq c2 hf
    refine lv_aload_n C.1 C.2.1 dX4_kindAt_9 rfl (lv_at hl 0 rfl) ?_
    refine gE_1_0 C G k_87 dX4_kindAt_10 ?_
    refine lv_iload_n C.1 C.2.1 dX4_kindAt_13 rfl (lv_at hl 1 rfl) ?_
    refine lv_bipush (v := 24) C.1 C.2.1 dX4_kindAt_14 (by decide) ?_
    refine lv_imul C.1 C.2.1 dX4_kindAt_16 ?_
    refine lv_iload_n C.1 C.2.1 dX4_kindAt_17 rfl (lv_at hl 2 rfl) ?_
    refine lv_iadd C.1 C.2.1 dX4_kindAt_18 ?_
    obtain ⟨hi3, hf⟩ := ifn hf
    refine aE_2 C G hi3 dX4_kindAt_19 ?_
    refine lv_goto (tgt := 24) C.1 C.2.1 dX4_kindAt_20 (by decide) ?_
    exact r_iret C hr G hf dX4_kindAt_24
set_option maxRecDepth 100000 in
set_option maxHeartbeats 4000000 in
theorem mX4_numberAt_1 (l : Launch) (D : va_G) (a : Nat → Nat) (cI cJ : ClassId) (tk : Nat) (tf : Nat → Int32) (p1 : Int32) (p2 : Int32) (S : St) (x : Int32 × St) (hf : fX4_numberAt_1 p1 p2 S = some x) : Mi l D (wE a cI cJ) a 25 cI cJ tk tf yX4_numberAt cX4_numberAt 3 (some .int) { frames := 2, cells := 0, slots := 0, locals := 43 } [.ref (a 1), .int p1, .int p2] S x := by
  refine opn_i (by decide +kernel) (Nat.le_of_ble_eq_true rfl) (fun p e s m below meth c C hr G ls hl => ?_)
  replace hl : lv_has ls 3 [(0, .ref (a 1)), (1, .int p1), (2, .int p2)] := hl
  unfold fX4_numberAt_1 at hf
  refine lv_aload_n C.1 C.2.1 dX4_numberAt_0 rfl (lv_at hl 0 rfl) ?_
  refine lv_iload_n C.1 C.2.1 dX4_numberAt_1 rfl (lv_at hl 1 rfl) ?_
  refine lv_iload_n C.1 C.2.1 dX4_numberAt_2 rfl (lv_at hl 2 rfl) ?_
  obtain ⟨r1, S1, eS1, hf⟩ := bnd_e hf
  refine r_cali (As := [.int p1, .int p2]) (na := 2) C adE G (mX4_hasToken_1 l D a cI cJ tk tf p1 p2 S _ eS1) k_352 k_354 k_2 k_60 k_355 (q0 := 1) rfl (ci := 4) rfl (by decide +kernel) ⟨Nat.le_of_ble_eq_true rfl, Nat.le_of_ble_eq_true rfl⟩ rfl rfl ⟨Nat.zero_le _, Nat.zero_le _⟩ rfl hl.1 rfl (Nat.le_of_ble_eq_true rfl) dX4_numberAt_3 (fun H locs G => ?_)
  refine lv_if_eq (tgt := 23) C.1 C.2.1 dX4_numberAt_6 (by decide) (fun c2 => ?_) (fun c2 => ?_)
  · replace hf := ifp c2 hf
    refine lv_iconst (v := 0) C.1 C.2.1 dX4_numberAt_23 (by decide) ?_
    exact r_iret C hr G hf dX4_numberAt_24
  · replace hf := ifq c2 hf
    refine lv_aload_n C.1 C.2.1 dX4_numberAt_9 rfl (lv_at hl 0 rfl) ?_
    refine gE_1_1 C G k_88 dX4_numberAt_10 ?_
    refine lv_iload_n C.1 C.2.1 dX4_numberAt_13 rfl (lv_at hl 1 rfl) ?_
    refine lv_bipush (v := 24) C.1 C.2.1 dX4_numberAt_14 (by decide) ?_
    refine lv_imul C.1 C.2.1 dX4_numberAt_16 ?_
    refine lv_iload_n C.1 C.2.1 dX4_numberAt_17 rfl (lv_at hl 2 rfl) ?_
    refine lv_iadd C.1 C.2.1 dX4_numberAt_18 ?_
    obtain ⟨hi3, hf⟩ := ifn hf
    refine aE_3 C G hi3 dX4_numberAt_19 ?_
    refine lv_goto (tgt := 24) C.1 C.2.1 dX4_numberAt_20 (by decide) ?_
    exact r_iret C hr G hf dX4_numberAt_24
set_option maxRecDepth 100000 in
set_option maxHeartbeats 4000000 in
theorem rX2_kindUnder_5_28 {p : Program} {l : Launch} {e : Env} {s : State} {m : MethodId} {args : Array Value} {below : List Frame} {meth : Method} {c : Code} {D : va_G} {a : Nat → Nat} {cI cJ : ClassId} {tk : Nat} {tf : Nat → Int32} (C : Cx p s m args meth c RX2 cX2_kindUnder 2 D cI cJ tk tf (AR a 25 s.heap.size)) (hr : meth.sig.returnType = (some .int)) : ∀ (S : St) (x : Int32 × St) (H : Heap) (locs : List Loc) (ls : Array Slot), fX2_kindUnder_5_28 S = some x → Wd D (wE a cI cJ) (AR a 25 s.heap.size) s S H locs → lv_has ls 2 [] → W p l e { frames := 0, cells := 0, slots := 0, locals := 0 } s m args below meth c H locs 0 0 (MQ below (Qi D (wE a cI cJ) (AR a 25 s.heap.size) x) args s 0 0 (AR a 25 s.heap.size)) (F0 m 28 ls []) := by
  intro S x H locs ls hf G hl
  unfold fX2_kindUnder_5_28 at hf
  refine lv_iconst (v := (-1)) C.1 C.2.1 dX2_kindUnder_28 (by decide) ?_
  exact r_iret C hr G hf dX2_kindUnder_29
set_option maxRecDepth 100000 in
set_option maxHeartbeats 4000000 in
theorem mX2_kindUnder_5 (l : Launch) (D : va_G) (a : Nat → Nat) (cI cJ : ClassId) (tk : Nat) (tf : Nat → Int32) (p1 : Int32) (S : St) (x : Int32 × St) (hf : fX2_kindUnder_5 p1 S = some x) : Mi l D (wE a cI cJ) a 25 cI cJ tk tf yX2_kindUnder cX2_kindUnder 2 (some .int) { frames := 0, cells := 0, slots := 0, locals := 0 } [.ref (a 5), .int p1] S x := by
  refine opn_i (by decide +kernel) (Nat.le_of_ble_eq_true rfl) (fun p e s m below meth c C hr G ls hl => ?_)
  replace hl : lv_has ls 2 [(0, .ref (a 5)), (1, .int p1)] := hl
  unfold fX2_kindUnder_5 at hf
  refine lv_iload_n C.1 C.2.1 dX2_kindUnder_0 rfl (lv_at hl 1 rfl) ?_
  refine lv_if_lt (tgt := 28) C.1 C.2.1 dX2_kindUnder_1 (by decide) (fun c1 => ?_) (fun c1 => ?_)
  · replace hf := ifp c1 hf
    exact rX2_kindUnder_5_28 C hr S _ _ _ _ hf G (lv_sub hl [] rfl)
  · replace hf := ifq c1 hf
    refine lv_iload_n C.1 C.2.1 dX2_kindUnder_4 rfl (lv_at hl 1 rfl) ?_
    refine lv_aload_n C.1 C.2.1 dX2_kindUnder_5 rfl (lv_at hl 0 rfl) ?_
    refine gE_5_2 C G k_112 dX2_kindUnder_6 ?_
    refine lv_icmp_ge (tgt := 28) C.1 C.2.1 dX2_kindUnder_9 (by decide) (fun c2 => ?_) (fun c2 => ?_)
    · replace hf := ifp c2 hf
      exact rX2_kindUnder_5_28 C hr S _ _ _ _ hf G (lv_sub hl [] rfl)
    · replace hf := ifq c2 hf
      refine lv_aload_n C.1 C.2.1 dX2_kindUnder_12 rfl (lv_at hl 0 rfl) ?_
      refine gE_5_0 C G k_110 dX2_kindUnder_13 ?_
      refine lv_aload_n C.1 C.2.1 dX2_kindUnder_16 rfl (lv_at hl 0 rfl) ?_
      refine gE_5_2 C G k_112 dX2_kindUnder_17 ?_
      refine lv_iconst (v := 1) C.1 C.2.1 dX2_kindUnder_20 (by decide) ?_
      refine lv_isub C.1 C.2.1 dX2_kindUnder_21 ?_
      refine lv_iload_n C.1 C.2.1 dX2_kindUnder_22 rfl (lv_at hl 1 rfl) ?_
      refine lv_isub C.1 C.2.1 dX2_kindUnder_23 ?_
      obtain ⟨hi3, hf⟩ := ifn hf
      refine aE_6 C G hi3 dX2_kindUnder_24 ?_
      refine lv_goto (tgt := 29) C.1 C.2.1 dX2_kindUnder_25 (by decide) ?_
      exact r_iret C hr G hf dX2_kindUnder_29
set_option maxRecDepth 100000 in
set_option maxHeartbeats 4000000 in
theorem rX7_misfit_0_18 {p : Program} {l : Launch} {e : Env} {s : State} {m : MethodId} {args : Array Value} {below : List Frame} {meth : Method} {c : Code} {D : va_G} {a : Nat → Nat} {cI cJ : ClassId} {tk : Nat} {tf : Nat → Int32} (C : Cx p s m args meth c RX7 cX7_misfit 6 D cI cJ tk tf (AR a 25 s.heap.size)) (hr : meth.sig.returnType = (some .int)) : ∀ (S : St) (x : Int32 × St) (H : Heap) (locs : List Loc) (ls : Array Slot), fX7_misfit_0_18 tf S = some x → Wd D (wE a cI cJ) (AR a 25 s.heap.size) s S H locs → lv_has ls 6 [] → W p l e { frames := 1, cells := 0, slots := 0, locals := 21 } s m args below meth c H locs 0 0 (MQ below (Qi D (wE a cI cJ) (AR a 25 s.heap.size) x) args s 0 0 (AR a 25 s.heap.size)) (F0 m 18 ls []) := by
  intro S x H locs ls hf G hl
  unfold fX7_misfit_0_18 at hf
  refine lv_iconst (v := 4) C.1 C.2.1 dX7_misfit_18 (by decide) ?_
  exact r_iret C hr G hf dX7_misfit_19
set_option maxRecDepth 100000 in
set_option maxHeartbeats 4000000 in
theorem rX7_misfit_0_25 {p : Program} {l : Launch} {e : Env} {s : State} {m : MethodId} {args : Array Value} {below : List Frame} {meth : Method} {c : Code} {D : va_G} {a : Nat → Nat} {cI cJ : ClassId} {tk : Nat} {tf : Nat → Int32} (C : Cx p s m args meth c RX7 cX7_misfit 6 D cI cJ tk tf (AR a 25 s.heap.size)) (hr : meth.sig.returnType = (some .int)) : ∀ (n : Nat) (q2 : Int32) (q3 : Int32) (q4 : Int32) (S : St) (x : Int32 × St) (H : Heap) (locs : List Loc) (ls : Array Slot), fX7_misfit_0_25 tf n q2 q3 q4 S = some x → Wd D (wE a cI cJ) (AR a 25 s.heap.size) s S H locs → lv_has ls 6 [(0, .ref (a 0)), (2, .int q2), (3, .int q3), (4, .int q4)] → W p l e { frames := 1, cells := 0, slots := 0, locals := 21 } s m args below meth c H locs 0 0 (MQ below (Qi D (wE a cI cJ) (AR a 25 s.heap.size) x) args s 0 0 (AR a 25 s.heap.size)) (F0 m 25 ls []) := by
  intro n
  induction n with
  | zero => intro q2 q3 q4 S x H locs ls hf G hl; cases hf
  | succ n ih =>
    intro q2 q3 q4 S x H locs ls hf G hl
    rw [fX7_misfit_0_25.eq_2] at hf
    refine lv_iload C.1 C.2.1 dX7_misfit_25 (lv_at hl 3 rfl) ?_
    refine lv_iconst (v := 4) C.1 C.2.1 dX7_misfit_27 (by decide) ?_
    refine lv_icmp_ge (tgt := 93) C.1 C.2.1 dX7_misfit_28 (by decide) (fun c1 => ?_) (fun c1 => ?_)
    · replace hf := ifp c1 hf
      refine lv_iload_n C.1 C.2.1 dX7_misfit_93 rfl (lv_at hl 2 rfl) ?_
      exact r_iret C hr G hf dX7_misfit_94
    · replace hf := ifq c1 hf
      refine r_tk C G k_368 dX7_misfit_31 ?_
      refine lv_iload_n C.1 C.2.1 dX7_misfit_34 rfl (lv_at hl 1 rfl) ?_
      refine lv_iload C.1 C.2.1 dX7_misfit_35 (lv_at hl 3 rfl) ?_
      refine lv_iadd C.1 C.2.1 dX7_misfit_37 ?_
      obtain ⟨hi2, hf⟩ := ifn hf
      refine r_tki C G hi2 dX7_misfit_38 ?_
      obtain ⟨y3, ey3, hf⟩ := stv_e hf
      refine nm_i ey3 ?_
      refine lv_istore (lv' := [(5, .int y3), (0, .ref (a 0)), (2, .int q2), (3, .int q3), (4, .int q4)]) C.1 C.2.1 dX7_misfit_39 hl (by decide) rfl (fun ls hl => ?_)
      refine lv_iload C.1 C.2.1 dX7_misfit_41 (lv_at hl 0 rfl) ?_
      refine lv_bipush (v := (-3)) C.1 C.2.1 dX7_misfit_43 (by decide) ?_
      refine lv_icmp_ne (tgt := 50) C.1 C.2.1 dX7_misfit_45 (by decide) (fun c4 => ?_) (fun c4 => ?_)
      · replace hf := ifq c4 hf
        refine lv_iload C.1 C.2.1 dX7_misfit_50 (lv_at hl 4 rfl) ?_
        refine lv_aload_n C.1 C.2.1 dX7_misfit_52 rfl (lv_at hl 1 rfl) ?_
        refine gE_0_2 C G k_223 dX7_misfit_53 ?_
        obtain ⟨r5, S5, eS5, hf⟩ := bnd_e hf
        refine r_cali (As := []) (na := 0) C adE G (mX2_count_5 l D a cI cJ tk tf S _ eS5) k_292 k_293 k_294 k_62 k_295 (q0 := 5) rfl (ci := 2) rfl (by decide +kernel) ⟨Nat.le_of_ble_eq_true rfl, Nat.le_of_ble_eq_true rfl⟩ rfl rfl ⟨Nat.zero_le _, Nat.zero_le _⟩ rfl hl.1 rfl (Nat.le_of_ble_eq_true rfl) dX7_misfit_56 (fun H locs G => ?_)
        refine lv_icmp_lt (tgt := 64) C.1 C.2.1 dX7_misfit_59 (by decide) (fun c6 => ?_) (fun c6 => ?_)
        · replace hf := ifp c6 hf
          refine lv_iload C.1 C.2.1 dX7_misfit_64 (lv_at hl 0 rfl) ?_
          refine lv_bipush (v := (-2)) C.1 C.2.1 dX7_misfit_66 (by decide) ?_
          refine lv_icmp_eq (tgt := 87) C.1 C.2.1 dX7_misfit_68 (by decide) (fun c7 => ?_) (fun c7 => ?_)
          · replace hf := ifp c7 hf
            obtain ⟨y8, ey8, hf⟩ := stv_e hf
            refine lv_iinc (v := y8) (lv' := [(4, .int y8), (5, .int y3), (0, .ref (a 0)), (2, .int q2), (3, .int q3)]) C.1 C.2.1 dX7_misfit_87 hl (k := 4) rfl (by rw [ey8]; rfl) (by decide) rfl (fun ls hl => ?_)
            refine lv_goto (tgt := 25) C.1 C.2.1 dX7_misfit_90 (by decide) ?_
            exact ih q2 q3 y8 S5 _ _ _ _ hf G (lv_sub hl [2, 3, 4, 0] rfl)
          · replace hf := ifq c7 hf
            refine lv_aload_n C.1 C.2.1 dX7_misfit_71 rfl (lv_at hl 1 rfl) ?_
            refine gE_0_2 C G k_223 dX7_misfit_72 ?_
            refine lv_iload C.1 C.2.1 dX7_misfit_75 (lv_at hl 4 rfl) ?_
            obtain ⟨r9, S9, eS9, hf⟩ := bnd_e hf
            refine r_cali (As := [.int q4]) (na := 1) C adE G (mX2_kindUnder_5 l D a cI cJ tk tf q4 S5 _ eS9) k_370 k_371 k_372 k_62 k_373 (q0 := 5) rfl (ci := 2) rfl (by decide +kernel) ⟨Nat.le_of_ble_eq_true rfl, Nat.le_of_ble_eq_true rfl⟩ rfl rfl ⟨Nat.zero_le _, Nat.zero_le _⟩ rfl hl.1 rfl (Nat.le_of_ble_eq_true rfl) dX7_misfit_77 (fun H locs G => ?_)
            refine lv_iload C.1 C.2.1 dX7_misfit_80 (lv_at hl 0 rfl) ?_
            refine lv_icmp_eq (tgt := 87) C.1 C.2.1 dX7_misfit_82 (by decide) (fun c10 => ?_) (fun c10 => ?_)
            · replace hf := ifp c10 hf
              obtain ⟨y11, ey11, hf⟩ := stv_e hf
              refine lv_iinc (v := y11) (lv' := [(4, .int y11), (5, .int y3), (0, .ref (a 0)), (2, .int q2), (3, .int q3)]) C.1 C.2.1 dX7_misfit_87 hl (k := 4) rfl (by rw [ey11]; rfl) (by decide) rfl (fun ls hl => ?_)
              refine lv_goto (tgt := 25) C.1 C.2.1 dX7_misfit_90 (by decide) ?_
              exact ih q2 q3 y11 S9 _ _ _ _ hf G (lv_sub hl [2, 3, 4, 0] rfl)
            · replace hf := ifq c10 hf
              refine lv_iconst (v := 3) C.1 C.2.1 dX7_misfit_85 (by decide) ?_
              obtain ⟨y12, ey12, hf⟩ := stv_e hf
              refine nm_i ey12 ?_
              refine lv_istore_n (lv' := [(3, .int y12), (5, .int y3), (0, .ref (a 0)), (2, .int q2), (4, .int q4)]) C.1 C.2.1 dX7_misfit_86 rfl hl (by decide) rfl (fun ls hl => ?_)
              obtain ⟨y13, ey13, hf⟩ := stv_e hf
              refine lv_iinc (v := y13) (lv' := [(4, .int y13), (3, .int y12), (5, .int y3), (0, .ref (a 0)), (2, .int q2)]) C.1 C.2.1 dX7_misfit_87 hl (k := 4) rfl (by rw [ey13]; rfl) (by decide) rfl (fun ls hl => ?_)
              refine lv_goto (tgt := 25) C.1 C.2.1 dX7_misfit_90 (by decide) ?_
              exact ih q2 y12 y13 S9 _ _ _ _ hf G (lv_sub hl [3, 4, 1, 0] rfl)
        · replace hf := ifq c6 hf
          refine lv_iconst (v := 1) C.1 C.2.1 dX7_misfit_62 (by decide) ?_
          exact r_iret C hr G hf dX7_misfit_63
      · replace hf := ifp c4 hf
        refine lv_iload_n C.1 C.2.1 dX7_misfit_48 rfl (lv_at hl 3 rfl) ?_
        exact r_iret C hr G hf dX7_misfit_49
set_option maxRecDepth 100000 in
set_option maxHeartbeats 4000000 in
theorem mX7_misfit_0 (l : Launch) (D : va_G) (a : Nat → Nat) (cI cJ : ClassId) (tk : Nat) (tf : Nat → Int32) (p1 : Int32) (S : St) (x : Int32 × St) (hf : fX7_misfit_0 tf p1 S = some x) : Mi l D (wE a cI cJ) a 25 cI cJ tk tf yX7_misfit cX7_misfit 6 (some .int) { frames := 1, cells := 0, slots := 0, locals := 21 } [.ref (a 0), .int p1] S x := by
  refine opn_i (by decide +kernel) (Nat.le_of_ble_eq_true rfl) (fun p e s m below meth c C hr G ls hl => ?_)
  replace hl : lv_has ls 6 [(0, .ref (a 0)), (1, .int p1)] := hl
  unfold fX7_misfit_0 at hf
  refine lv_iload_n C.1 C.2.1 dX7_misfit_0 rfl (lv_at hl 1 rfl) ?_
  refine lv_iconst (v := 4) C.1 C.2.1 dX7_misfit_1 (by decide) ?_
  refine lv_imul C.1 C.2.1 dX7_misfit_2 ?_
  obtain ⟨y1, ey1, hf⟩ := stv_e hf
  refine nm_i ey1 ?_
  refine lv_istore_n (lv' := [(2, .int y1), (0, .ref (a 0)), (1, .int p1)]) C.1 C.2.1 dX7_misfit_3 rfl hl (by decide) rfl (fun ls hl => ?_)
  refine lv_iload_n C.1 C.2.1 dX7_misfit_4 rfl (lv_at hl 0 rfl) ?_
  refine lv_if_lt (tgt := 18) C.1 C.2.1 dX7_misfit_5 (by decide) (fun c2 => ?_) (fun c2 => ?_)
  · replace hf := ifp c2 hf
    exact rX7_misfit_0_18 C hr S _ _ _ _ hf G (lv_sub hl [] rfl)
  · replace hf := ifq c2 hf
    refine lv_iload_n C.1 C.2.1 dX7_misfit_8 rfl (lv_at hl 0 rfl) ?_
    refine r_tk C G k_368 dX7_misfit_9 ?_
    refine r_tkl C G dX7_misfit_12 ?_
    refine lv_iconst (v := 4) C.1 C.2.1 dX7_misfit_13 (by decide) ?_
    refine lv_isub C.1 C.2.1 dX7_misfit_14 ?_
    refine lv_icmp_le (tgt := 20) C.1 C.2.1 dX7_misfit_15 (by decide) (fun c3 => ?_) (fun c3 => ?_)
    · replace hf := ifp c3 hf
      refine lv_iconst (v := 0) C.1 C.2.1 dX7_misfit_20 (by decide) ?_
      obtain ⟨y4, ey4, hf⟩ := stv_e hf
      refine nm_i ey4 ?_
      refine lv_istore_n (lv' := [(3, .int y4), (2, .int y1), (0, .ref (a 0)), (1, .int p1)]) C.1 C.2.1 dX7_misfit_21 rfl hl (by decide) rfl (fun ls hl => ?_)
      refine lv_iconst (v := 0) C.1 C.2.1 dX7_misfit_22 (by decide) ?_
      obtain ⟨y5, ey5, hf⟩ := stv_e hf
      refine nm_i ey5 ?_
      refine lv_istore (lv' := [(4, .int y5), (3, .int y4), (2, .int y1), (0, .ref (a 0)), (1, .int p1)]) C.1 C.2.1 dX7_misfit_23 hl (by decide) rfl (fun ls hl => ?_)
      exact rX7_misfit_0_25 C hr 500 y1 y4 y5 S _ _ _ _ hf G (lv_sub hl [3, 2, 1, 0] rfl)
    · replace hf := ifq c3 hf
      exact rX7_misfit_0_18 C hr S _ _ _ _ hf G (lv_sub hl [] rfl)
set_option maxRecDepth 100000 in
set_option maxHeartbeats 4000000 in
theorem rX2_numberUnder_5_28 {p : Program} {l : Launch} {e : Env} {s : State} {m : MethodId} {args : Array Value} {below : List Frame} {meth : Method} {c : Code} {D : va_G} {a : Nat → Nat} {cI cJ : ClassId} {tk : Nat} {tf : Nat → Int32} (C : Cx p s m args meth c RX2 cX2_numberUnder 2 D cI cJ tk tf (AR a 25 s.heap.size)) (hr : meth.sig.returnType = (some .int)) : ∀ (S : St) (x : Int32 × St) (H : Heap) (locs : List Loc) (ls : Array Slot), fX2_numberUnder_5_28 S = some x → Wd D (wE a cI cJ) (AR a 25 s.heap.size) s S H locs → lv_has ls 2 [] → W p l e { frames := 0, cells := 0, slots := 0, locals := 0 } s m args below meth c H locs 0 0 (MQ below (Qi D (wE a cI cJ) (AR a 25 s.heap.size) x) args s 0 0 (AR a 25 s.heap.size)) (F0 m 28 ls []) := by
  intro S x H locs ls hf G hl
  unfold fX2_numberUnder_5_28 at hf
  refine lv_iconst (v := 0) C.1 C.2.1 dX2_numberUnder_28 (by decide) ?_
  exact r_iret C hr G hf dX2_numberUnder_29
set_option maxRecDepth 100000 in
set_option maxHeartbeats 4000000 in
theorem mX2_numberUnder_5 (l : Launch) (D : va_G) (a : Nat → Nat) (cI cJ : ClassId) (tk : Nat) (tf : Nat → Int32) (p1 : Int32) (S : St) (x : Int32 × St) (hf : fX2_numberUnder_5 p1 S = some x) : Mi l D (wE a cI cJ) a 25 cI cJ tk tf yX2_numberUnder cX2_numberUnder 2 (some .int) { frames := 0, cells := 0, slots := 0, locals := 0 } [.ref (a 5), .int p1] S x := by
  refine opn_i (by decide +kernel) (Nat.le_of_ble_eq_true rfl) (fun p e s m below meth c C hr G ls hl => ?_)
  replace hl : lv_has ls 2 [(0, .ref (a 5)), (1, .int p1)] := hl
  unfold fX2_numberUnder_5 at hf
  refine lv_iload_n C.1 C.2.1 dX2_numberUnder_0 rfl (lv_at hl 1 rfl) ?_
  refine lv_if_lt (tgt := 28) C.1 C.2.1 dX2_numberUnder_1 (by decide) (fun c1 => ?_) (fun c1 => ?_)
  · replace hf := ifp c1 hf
    exact rX2_numberUnder_5_28 C hr S _ _ _ _ hf G (lv_sub hl [] rfl)
  · replace hf := ifq c1 hf
    refine lv_iload_n C.1 C.2.1 dX2_numberUnder_4 rfl (lv_at hl 1 rfl) ?_
    refine lv_aload_n C.1 C.2.1 dX2_numberUnder_5 rfl (lv_at hl 0 rfl) ?_
    refine gE_5_2 C G k_112 dX2_numberUnder_6 ?_
    refine lv_icmp_ge (tgt := 28) C.1 C.2.1 dX2_numberUnder_9 (by decide) (fun c2 => ?_) (fun c2 => ?_)
    · replace hf := ifp c2 hf
      exact rX2_numberUnder_5_28 C hr S _ _ _ _ hf G (lv_sub hl [] rfl)
    · replace hf := ifq c2 hf
      refine lv_aload_n C.1 C.2.1 dX2_numberUnder_12 rfl (lv_at hl 0 rfl) ?_
      refine gE_5_1 C G k_111 dX2_numberUnder_13 ?_
      refine lv_aload_n C.1 C.2.1 dX2_numberUnder_16 rfl (lv_at hl 0 rfl) ?_
      refine gE_5_2 C G k_112 dX2_numberUnder_17 ?_
      refine lv_iconst (v := 1) C.1 C.2.1 dX2_numberUnder_20 (by decide) ?_
      refine lv_isub C.1 C.2.1 dX2_numberUnder_21 ?_
      refine lv_iload_n C.1 C.2.1 dX2_numberUnder_22 rfl (lv_at hl 1 rfl) ?_
      refine lv_isub C.1 C.2.1 dX2_numberUnder_23 ?_
      obtain ⟨hi3, hf⟩ := ifn hf
      refine aE_7 C G hi3 dX2_numberUnder_24 ?_
      refine lv_goto (tgt := 29) C.1 C.2.1 dX2_numberUnder_25 (by decide) ?_
      exact r_iret C hr G hf dX2_numberUnder_29
set_option maxRecDepth 100000 in
set_option maxHeartbeats 4000000 in
theorem rX6_kindOf_8_19 {p : Program} {l : Launch} {e : Env} {s : State} {m : MethodId} {args : Array Value} {below : List Frame} {meth : Method} {c : Code} {D : va_G} {a : Nat → Nat} {cI cJ : ClassId} {tk : Nat} {tf : Nat → Int32} (C : Cx p s m args meth c RX6 cX6_kindOf 2 D cI cJ tk tf (AR a 25 s.heap.size)) (hr : meth.sig.returnType = (some .int)) : ∀ (S : St) (x : Int32 × St) (H : Heap) (locs : List Loc) (ls : Array Slot), fX6_kindOf_8_19 S = some x → Wd D (wE a cI cJ) (AR a 25 s.heap.size) s S H locs → lv_has ls 2 [] → W p l e { frames := 0, cells := 0, slots := 0, locals := 0 } s m args below meth c H locs 0 0 (MQ below (Qi D (wE a cI cJ) (AR a 25 s.heap.size) x) args s 0 0 (AR a 25 s.heap.size)) (F0 m 19 ls []) := by
  intro S x H locs ls hf G hl
  unfold fX6_kindOf_8_19 at hf
  refine lv_iconst (v := (-1)) C.1 C.2.1 dX6_kindOf_19 (by decide) ?_
  exact r_iret C hr G hf dX6_kindOf_20
set_option maxRecDepth 100000 in
set_option maxHeartbeats 4000000 in
theorem mX6_kindOf_8 (l : Launch) (D : va_G) (a : Nat → Nat) (cI cJ : ClassId) (tk : Nat) (tf : Nat → Int32) (p1 : Int32) (S : St) (x : Int32 × St) (hf : fX6_kindOf_8 p1 S = some x) : Mi l D (wE a cI cJ) a 25 cI cJ tk tf yX6_kindOf cX6_kindOf 2 (some .int) { frames := 0, cells := 0, slots := 0, locals := 0 } [.ref (a 8), .int p1] S x := by
  refine opn_i (by decide +kernel) (Nat.le_of_ble_eq_true rfl) (fun p e s m below meth c C hr G ls hl => ?_)
  replace hl : lv_has ls 2 [(0, .ref (a 8)), (1, .int p1)] := hl
  unfold fX6_kindOf_8 at hf
  refine lv_iload_n C.1 C.2.1 dX6_kindOf_0 rfl (lv_at hl 1 rfl) ?_
  refine lv_if_lt (tgt := 19) C.1 C.2.1 dX6_kindOf_1 (by decide) (fun c1 => ?_) (fun c1 => ?_)
  · replace hf := ifp c1 hf
    exact rX6_kindOf_8_19 C hr S _ _ _ _ hf G (lv_sub hl [] rfl)
  · replace hf := ifq c1 hf
    refine lv_iload_n C.1 C.2.1 dX6_kindOf_4 rfl (lv_at hl 1 rfl) ?_
    refine lv_bipush (v := 40) C.1 C.2.1 dX6_kindOf_5 (by decide) ?_
    refine lv_icmp_ge (tgt := 19) C.1 C.2.1 dX6_kindOf_7 (by decide) (fun c2 => ?_) (fun c2 => ?_)
    · replace hf := ifp c2 hf
      exact rX6_kindOf_8_19 C hr S _ _ _ _ hf G (lv_sub hl [] rfl)
    · replace hf := ifq c2 hf
      refine lv_aload_n C.1 C.2.1 dX6_kindOf_10 rfl (lv_at hl 0 rfl) ?_
      refine gE_8_0 C G k_129 dX6_kindOf_11 ?_
      refine lv_iload_n C.1 C.2.1 dX6_kindOf_14 rfl (lv_at hl 1 rfl) ?_
      obtain ⟨hi3, hf⟩ := ifn hf
      refine aE_9 C G hi3 dX6_kindOf_15 ?_
      refine lv_goto (tgt := 20) C.1 C.2.1 dX6_kindOf_16 (by decide) ?_
      exact r_iret C hr G hf dX6_kindOf_20
set_option maxRecDepth 100000 in
set_option maxHeartbeats 4000000 in
theorem rX6_numberOf_8_19 {p : Program} {l : Launch} {e : Env} {s : State} {m : MethodId} {args : Array Value} {below : List Frame} {meth : Method} {c : Code} {D : va_G} {a : Nat → Nat} {cI cJ : ClassId} {tk : Nat} {tf : Nat → Int32} (C : Cx p s m args meth c RX6 cX6_numberOf 2 D cI cJ tk tf (AR a 25 s.heap.size)) (hr : meth.sig.returnType = (some .int)) : ∀ (S : St) (x : Int32 × St) (H : Heap) (locs : List Loc) (ls : Array Slot), fX6_numberOf_8_19 S = some x → Wd D (wE a cI cJ) (AR a 25 s.heap.size) s S H locs → lv_has ls 2 [] → W p l e { frames := 0, cells := 0, slots := 0, locals := 0 } s m args below meth c H locs 0 0 (MQ below (Qi D (wE a cI cJ) (AR a 25 s.heap.size) x) args s 0 0 (AR a 25 s.heap.size)) (F0 m 19 ls []) := by
  intro S x H locs ls hf G hl
  unfold fX6_numberOf_8_19 at hf
  refine lv_iconst (v := 0) C.1 C.2.1 dX6_numberOf_19 (by decide) ?_
  exact r_iret C hr G hf dX6_numberOf_20
set_option maxRecDepth 100000 in
set_option maxHeartbeats 4000000 in
theorem mX6_numberOf_8 (l : Launch) (D : va_G) (a : Nat → Nat) (cI cJ : ClassId) (tk : Nat) (tf : Nat → Int32) (p1 : Int32) (S : St) (x : Int32 × St) (hf : fX6_numberOf_8 p1 S = some x) : Mi l D (wE a cI cJ) a 25 cI cJ tk tf yX6_numberOf cX6_numberOf 2 (some .int) { frames := 0, cells := 0, slots := 0, locals := 0 } [.ref (a 8), .int p1] S x := by
  refine opn_i (by decide +kernel) (Nat.le_of_ble_eq_true rfl) (fun p e s m below meth c C hr G ls hl => ?_)
  replace hl : lv_has ls 2 [(0, .ref (a 8)), (1, .int p1)] := hl
  unfold fX6_numberOf_8 at hf
  refine lv_iload_n C.1 C.2.1 dX6_numberOf_0 rfl (lv_at hl 1 rfl) ?_
  refine lv_if_lt (tgt := 19) C.1 C.2.1 dX6_numberOf_1 (by decide) (fun c1 => ?_) (fun c1 => ?_)
  · replace hf := ifp c1 hf
    exact rX6_numberOf_8_19 C hr S _ _ _ _ hf G (lv_sub hl [] rfl)
  · replace hf := ifq c1 hf
    refine lv_iload_n C.1 C.2.1 dX6_numberOf_4 rfl (lv_at hl 1 rfl) ?_
    refine lv_bipush (v := 40) C.1 C.2.1 dX6_numberOf_5 (by decide) ?_
    refine lv_icmp_ge (tgt := 19) C.1 C.2.1 dX6_numberOf_7 (by decide) (fun c2 => ?_) (fun c2 => ?_)
    · replace hf := ifp c2 hf
      exact rX6_numberOf_8_19 C hr S _ _ _ _ hf G (lv_sub hl [] rfl)
    · replace hf := ifq c2 hf
      refine lv_aload_n C.1 C.2.1 dX6_numberOf_10 rfl (lv_at hl 0 rfl) ?_
      refine gE_8_1 C G k_130 dX6_numberOf_11 ?_
      refine lv_iload_n C.1 C.2.1 dX6_numberOf_14 rfl (lv_at hl 1 rfl) ?_
      obtain ⟨hi3, hf⟩ := ifn hf
      refine aE_10 C G hi3 dX6_numberOf_15 ?_
      refine lv_goto (tgt := 20) C.1 C.2.1 dX6_numberOf_16 (by decide) ?_
      exact r_iret C hr G hf dX6_numberOf_20
set_option maxRecDepth 100000 in
set_option maxHeartbeats 4000000 in
theorem mX2_replace_5 (l : Launch) (D : va_G) (a : Nat → Nat) (cI cJ : ClassId) (tk : Nat) (tf : Nat → Int32) (p1 : Int32) (p2 : Int32) (p3 : Int32) (S : St) (x : Int32 × St) (hf : fX2_replace_5 p1 p2 p3 S = some x) : Mv l D (wE a cI cJ) a 25 cI cJ tk tf yX2_replace cX2_replace 4 { frames := 0, cells := 0, slots := 0, locals := 0 } [.ref (a 5), .int p1, .int p2, .int p3] S x := by
  refine opn_v (by decide +kernel) (Nat.le_of_ble_eq_true rfl) (fun p e s m below meth c C hr G ls hl => ?_)
  replace hl : lv_has ls 4 [(0, .ref (a 5)), (1, .int p1), (2, .int p2), (3, .int p3)] := hl
  unfold fX2_replace_5 at hf
  refine lv_iload_n C.1 C.2.1 dX2_replace_0 rfl (lv_at hl 1 rfl) ?_
  refine lv_if_le (tgt := 48) C.1 C.2.1 dX2_replace_1 (by decide) (fun c1 => ?_) (fun c1 => ?_)
  · replace hf := ifp c1 hf
    exact r_vret C hr G hf dX2_replace_48
  · replace hf := ifq c1 hf
    refine lv_iload_n C.1 C.2.1 dX2_replace_4 rfl (lv_at hl 1 rfl) ?_
    refine lv_aload_n C.1 C.2.1 dX2_replace_5 rfl (lv_at hl 0 rfl) ?_
    refine gE_5_2 C G k_112 dX2_replace_6 ?_
    refine lv_icmp_gt (tgt := 48) C.1 C.2.1 dX2_replace_9 (by decide) (fun c2 => ?_) (fun c2 => ?_)
    · replace hf := ifp c2 hf
      exact r_vret C hr G hf dX2_replace_48
    · replace hf := ifq c2 hf
      refine lv_aload_n C.1 C.2.1 dX2_replace_12 rfl (lv_at hl 0 rfl) ?_
      refine lv_dup C.1 C.2.1 dX2_replace_13 rfl ?_
      refine gE_5_2 C G k_112 dX2_replace_14 ?_
      refine lv_iload_n C.1 C.2.1 dX2_replace_17 rfl (lv_at hl 1 rfl) ?_
      refine lv_iconst (v := 1) C.1 C.2.1 dX2_replace_18 (by decide) ?_
      refine lv_isub C.1 C.2.1 dX2_replace_19 ?_
      refine lv_isub C.1 C.2.1 dX2_replace_20 ?_
      refine pE_5_2 C G k_112 dX2_replace_21 (fun H locs G => ?_)
      obtain ⟨S3, eS3, hf⟩ := stp_e hf
      rw [← eS3] at G
      clear eS3
      refine lv_aload_n C.1 C.2.1 dX2_replace_24 rfl (lv_at hl 0 rfl) ?_
      refine gE_5_0 C G k_110 dX2_replace_25 ?_
      refine lv_aload_n C.1 C.2.1 dX2_replace_28 rfl (lv_at hl 0 rfl) ?_
      refine gE_5_2 C G k_112 dX2_replace_29 ?_
      refine lv_iconst (v := 1) C.1 C.2.1 dX2_replace_32 (by decide) ?_
      refine lv_isub C.1 C.2.1 dX2_replace_33 ?_
      refine lv_iload_n C.1 C.2.1 dX2_replace_34 rfl (lv_at hl 2 rfl) ?_
      obtain ⟨hi4, hf⟩ := ifn hf
      refine sE_6 C G hi4 dX2_replace_35 (fun H locs G => ?_)
      obtain ⟨S4, eS4, hf⟩ := stp_e hf
      rw [← eS4] at G
      clear eS4
      refine lv_aload_n C.1 C.2.1 dX2_replace_36 rfl (lv_at hl 0 rfl) ?_
      refine gE_5_1 C G k_111 dX2_replace_37 ?_
      refine lv_aload_n C.1 C.2.1 dX2_replace_40 rfl (lv_at hl 0 rfl) ?_
      refine gE_5_2 C G k_112 dX2_replace_41 ?_
      refine lv_iconst (v := 1) C.1 C.2.1 dX2_replace_44 (by decide) ?_
      refine lv_isub C.1 C.2.1 dX2_replace_45 ?_
      refine lv_iload_n C.1 C.2.1 dX2_replace_46 rfl (lv_at hl 3 rfl) ?_
      obtain ⟨hi5, hf⟩ := ifn hf
      refine sE_7 C G hi5 dX2_replace_47 (fun H locs G => ?_)
      obtain ⟨S5, eS5, hf⟩ := stp_e hf
      rw [← eS5] at G
      clear eS5
      exact r_vret C hr G hf dX2_replace_48
set_option maxRecDepth 100000 in
set_option maxHeartbeats 4000000 in
theorem mX3_lookUp_24 (l : Launch) (D : va_G) (a : Nat → Nat) (cI cJ : ClassId) (tk : Nat) (tf : Nat → Int32) (p1 : Int32) (S : St) (x : Int32 × St) (hf : fX3_lookUp_24 p1 S = some x) : Mi l D (wE a cI cJ) a 25 cI cJ tk tf yX3_lookUp cX3_lookUp 3 (some .int) { frames := 1, cells := 0, slots := 0, locals := 23 } [.ref (a 24), .int p1] S x := by
  refine opn_i (by decide +kernel) (Nat.le_of_ble_eq_true rfl) (fun p e s m below meth c C hr G ls hl => ?_)
  replace hl : lv_has ls 3 [(0, .ref (a 24)), (1, .int p1)] := hl
  unfold fX3_lookUp_24 at hf
  refine lv_aload_n C.1 C.2.1 dX3_lookUp_0 rfl (lv_at hl 0 rfl) ?_
  refine gE_24_1 C G k_137 dX3_lookUp_1 ?_
  refine lv_iload_n C.1 C.2.1 dX3_lookUp_4 rfl (lv_at hl 1 rfl) ?_
  obtain ⟨r1, S1, eS1, hf⟩ := bnd_e hf
  refine r_cali (As := [.int p1]) (na := 1) C adE G (mX6_kindOf_8 l D a cI cJ tk tf p1 S _ eS1) k_403 k_392 k_393 k_63 k_394 (q0 := 8) rfl (ci := 6) rfl (by decide +kernel) ⟨Nat.le_of_ble_eq_true rfl, Nat.le_of_ble_eq_true rfl⟩ rfl rfl ⟨Nat.zero_le _, Nat.zero_le _⟩ rfl hl.1 rfl (Nat.le_of_ble_eq_true rfl) dX3_lookUp_5 (fun H locs G => ?_)
  refine lv_istore_n (lv' := [(2, .int r1), (0, .ref (a 24)), (1, .int p1)]) C.1 C.2.1 dX3_lookUp_8 rfl hl (by decide) rfl (fun ls hl => ?_)
  refine lv_iload_n C.1 C.2.1 dX3_lookUp_9 rfl (lv_at hl 0 rfl) ?_
  refine lv_iconst (v := (-1)) C.1 C.2.1 dX3_lookUp_10 (by decide) ?_
  refine lv_icmp_ne (tgt := 16) C.1 C.2.1 dX3_lookUp_11 (by decide) (fun c2 => ?_) (fun c2 => ?_)
  · replace hf := ifq c2 hf
    refine lv_aload_n C.1 C.2.1 dX3_lookUp_16 rfl (lv_at hl 1 rfl) ?_
    refine gE_24_0 C G k_136 dX3_lookUp_17 ?_
    refine lv_iconst (v := 1) C.1 C.2.1 dX3_lookUp_20 (by decide) ?_
    refine lv_iload_n C.1 C.2.1 dX3_lookUp_21 rfl (lv_at hl 0 rfl) ?_
    refine lv_aload_n C.1 C.2.1 dX3_lookUp_22 rfl (lv_at hl 1 rfl) ?_
    refine gE_24_1 C G k_137 dX3_lookUp_23 ?_
    refine lv_iload_n C.1 C.2.1 dX3_lookUp_26 rfl (lv_at hl 2 rfl) ?_
    obtain ⟨r3, S3, eS3, hf⟩ := bnd_e hf
    refine r_cali (As := [.int p1]) (na := 1) C adE G (mX6_numberOf_8 l D a cI cJ tk tf p1 S1 _ eS3) k_404 k_396 k_397 k_63 k_398 (q0 := 8) rfl (ci := 6) rfl (by decide +kernel) ⟨Nat.le_of_ble_eq_true rfl, Nat.le_of_ble_eq_true rfl⟩ rfl rfl ⟨Nat.zero_le _, Nat.zero_le _⟩ rfl hl.1 rfl (Nat.le_of_ble_eq_true rfl) dX3_lookUp_27 (fun H locs G => ?_)
    obtain ⟨r4, S4, eS4, hf⟩ := bnd_e hf
    refine r_calv (As := [.int (1 : Int32), .int r1, .int r3]) (na := 3) C adE G (mX2_replace_5 l D a cI cJ tk tf (1 : Int32) r1 r3 S3 _ eS4) k_405 k_406 k_407 k_62 k_408 (q0 := 5) rfl (ci := 2) rfl (by decide +kernel) ⟨Nat.le_of_ble_eq_true rfl, Nat.le_of_ble_eq_true rfl⟩ rfl rfl ⟨Nat.zero_le _, Nat.zero_le _⟩ rfl hl.1 rfl (Nat.le_of_ble_eq_true rfl) dX3_lookUp_30 (fun H locs G => ?_)
    refine lv_iconst (v := 0) C.1 C.2.1 dX3_lookUp_33 (by decide) ?_
    exact r_iret C hr G hf dX3_lookUp_34
  · replace hf := ifp c2 hf
    refine lv_iconst (v := 5) C.1 C.2.1 dX3_lookUp_14 (by decide) ?_
    exact r_iret C hr G hf dX3_lookUp_15
set_option maxRecDepth 100000 in
set_option maxHeartbeats 4000000 in
theorem mX6_give_8 (l : Launch) (D : va_G) (a : Nat → Nat) (cI cJ : ClassId) (tk : Nat) (tf : Nat → Int32) (p1 : Int32) (p2 : Int32) (p3 : Int32) (S : St) (x : Int32 × St) (hf : fX6_give_8 p1 p2 p3 S = some x) : Mv l D (wE a cI cJ) a 25 cI cJ tk tf yX6_give cX6_give 4 { frames := 0, cells := 0, slots := 0, locals := 0 } [.ref (a 8), .int p1, .int p2, .int p3] S x := by
  refine opn_v (by decide +kernel) (Nat.le_of_ble_eq_true rfl) (fun p e s m below meth c C hr G ls hl => ?_)
  replace hl : lv_has ls 4 [(0, .ref (a 8)), (1, .int p1), (2, .int p2), (3, .int p3)] := hl
  unfold fX6_give_8 at hf
  refine lv_iload_n C.1 C.2.1 dX6_give_0 rfl (lv_at hl 1 rfl) ?_
  refine lv_if_lt (tgt := 24) C.1 C.2.1 dX6_give_1 (by decide) (fun c1 => ?_) (fun c1 => ?_)
  · replace hf := ifp c1 hf
    exact r_vret C hr G hf dX6_give_24
  · replace hf := ifq c1 hf
    refine lv_iload_n C.1 C.2.1 dX6_give_4 rfl (lv_at hl 1 rfl) ?_
    refine lv_bipush (v := 40) C.1 C.2.1 dX6_give_5 (by decide) ?_
    refine lv_icmp_ge (tgt := 24) C.1 C.2.1 dX6_give_7 (by decide) (fun c2 => ?_) (fun c2 => ?_)
    · replace hf := ifp c2 hf
      exact r_vret C hr G hf dX6_give_24
    · replace hf := ifq c2 hf
      refine lv_aload_n C.1 C.2.1 dX6_give_10 rfl (lv_at hl 0 rfl) ?_
      refine gE_8_0 C G k_129 dX6_give_11 ?_
      refine lv_iload_n C.1 C.2.1 dX6_give_14 rfl (lv_at hl 1 rfl) ?_
      refine lv_iload_n C.1 C.2.1 dX6_give_15 rfl (lv_at hl 2 rfl) ?_
      obtain ⟨hi3, hf⟩ := ifn hf
      refine sE_9 C G hi3 dX6_give_16 (fun H locs G => ?_)
      obtain ⟨S3, eS3, hf⟩ := stp_e hf
      rw [← eS3] at G
      clear eS3
      refine lv_aload_n C.1 C.2.1 dX6_give_17 rfl (lv_at hl 0 rfl) ?_
      refine gE_8_1 C G k_130 dX6_give_18 ?_
      refine lv_iload_n C.1 C.2.1 dX6_give_21 rfl (lv_at hl 1 rfl) ?_
      refine lv_iload_n C.1 C.2.1 dX6_give_22 rfl (lv_at hl 3 rfl) ?_
      obtain ⟨hi4, hf⟩ := ifn hf
      refine sE_10 C G hi4 dX6_give_23 (fun H locs G => ?_)
      obtain ⟨S4, eS4, hf⟩ := stp_e hf
      rw [← eS4] at G
      clear eS4
      exact r_vret C hr G hf dX6_give_24
set_option maxRecDepth 100000 in
set_option maxHeartbeats 4000000 in
theorem mX3_define_24 (l : Launch) (D : va_G) (a : Nat → Nat) (cI cJ : ClassId) (tk : Nat) (tf : Nat → Int32) (S : St) (x : Int32 × St) (hf : fX3_define_24 S = some x) : Mi l D (wE a cI cJ) a 25 cI cJ tk tf yX3_define cX3_define 1 (some .int) { frames := 1, cells := 0, slots := 0, locals := 23 } [.ref (a 24)] S x := by
  refine opn_i (by decide +kernel) (Nat.le_of_ble_eq_true rfl) (fun p e s m below meth c C hr G ls hl => ?_)
  replace hl : lv_has ls 1 [(0, .ref (a 24))] := hl
  unfold fX3_define_24 at hf
  refine lv_aload_n C.1 C.2.1 dX3_define_0 rfl (lv_at hl 0 rfl) ?_
  refine gE_24_1 C G k_137 dX3_define_1 ?_
  refine lv_aload_n C.1 C.2.1 dX3_define_4 rfl (lv_at hl 0 rfl) ?_
  refine gE_24_0 C G k_136 dX3_define_5 ?_
  refine lv_iconst (v := 1) C.1 C.2.1 dX3_define_8 (by decide) ?_
  obtain ⟨r1, S1, eS1, hf⟩ := bnd_e hf
  refine r_cali (As := [.int (1 : Int32)]) (na := 1) C adE G (mX2_numberUnder_5 l D a cI cJ tk tf (1 : Int32) S _ eS1) k_496 k_379 k_380 k_62 k_381 (q0 := 5) rfl (ci := 2) rfl (by decide +kernel) ⟨Nat.le_of_ble_eq_true rfl, Nat.le_of_ble_eq_true rfl⟩ rfl rfl ⟨Nat.zero_le _, Nat.zero_le _⟩ rfl hl.1 rfl (Nat.le_of_ble_eq_true rfl) dX3_define_9 (fun H locs G => ?_)
  refine lv_aload_n C.1 C.2.1 dX3_define_12 rfl (lv_at hl 0 rfl) ?_
  refine gE_24_0 C G k_136 dX3_define_13 ?_
  refine lv_iconst (v := 0) C.1 C.2.1 dX3_define_16 (by decide) ?_
  obtain ⟨r2, S2, eS2, hf⟩ := bnd_e hf
  refine r_cali (As := [.int (0 : Int32)]) (na := 1) C adE G (mX2_kindUnder_5 l D a cI cJ tk tf (0 : Int32) S1 _ eS2) k_509 k_371 k_372 k_62 k_373 (q0 := 5) rfl (ci := 2) rfl (by decide +kernel) ⟨Nat.le_of_ble_eq_true rfl, Nat.le_of_ble_eq_true rfl⟩ rfl rfl ⟨Nat.zero_le _, Nat.zero_le _⟩ rfl hl.1 rfl (Nat.le_of_ble_eq_true rfl) dX3_define_17 (fun H locs G => ?_)
  refine lv_aload_n C.1 C.2.1 dX3_define_20 rfl (lv_at hl 0 rfl) ?_
  refine gE_24_0 C G k_136 dX3_define_21 ?_
  refine lv_iconst (v := 0) C.1 C.2.1 dX3_define_24 (by decide) ?_
  obtain ⟨r3, S3, eS3, hf⟩ := bnd_e hf
  refine r_cali (As := [.int (0 : Int32)]) (na := 1) C adE G (mX2_numberUnder_5 l D a cI cJ tk tf (0 : Int32) S2 _ eS3) k_496 k_379 k_380 k_62 k_381 (q0 := 5) rfl (ci := 2) rfl (by decide +kernel) ⟨Nat.le_of_ble_eq_true rfl, Nat.le_of_ble_eq_true rfl⟩ rfl rfl ⟨Nat.zero_le _, Nat.zero_le _⟩ rfl hl.1 rfl (Nat.le_of_ble_eq_true rfl) dX3_define_25 (fun H locs G => ?_)
  obtain ⟨r4, S4, eS4, hf⟩ := bnd_e hf
  refine r_calv (As := [.int r1, .int r2, .int r3]) (na := 3) C adE G (mX6_give_8 l D a cI cJ tk tf r1 r2 r3 S3 _ eS4) k_541 k_542 k_543 k_63 k_544 (q0 := 8) rfl (ci := 6) rfl (by decide +kernel) ⟨Nat.le_of_ble_eq_true rfl, Nat.le_of_ble_eq_true rfl⟩ rfl rfl ⟨Nat.zero_le _, Nat.zero_le _⟩ rfl hl.1 rfl (Nat.le_of_ble_eq_true rfl) dX3_define_28 (fun H locs G => ?_)
  refine lv_aload_n C.1 C.2.1 dX3_define_31 rfl (lv_at hl 0 rfl) ?_
  refine gE_24_0 C G k_136 dX3_define_32 ?_
  refine lv_iconst (v := 2) C.1 C.2.1 dX3_define_35 (by decide) ?_
  obtain ⟨r5, S5, eS5, hf⟩ := bnd_e hf
  refine r_calv (As := [.int (2 : Int32)]) (na := 1) C adE G (mX2_takeOff_5 l D a cI cJ tk tf (2 : Int32) S4 _ eS5) k_510 k_301 k_302 k_62 k_303 (q0 := 5) rfl (ci := 2) rfl (by decide +kernel) ⟨Nat.le_of_ble_eq_true rfl, Nat.le_of_ble_eq_true rfl⟩ rfl rfl ⟨Nat.zero_le _, Nat.zero_le _⟩ rfl hl.1 rfl (Nat.le_of_ble_eq_true rfl) dX3_define_36 (fun H locs G => ?_)
  refine lv_iconst (v := 0) C.1 C.2.1 dX3_define_39 (by decide) ?_
  exact r_iret C hr G hf dX3_define_40
set_option maxRecDepth 100000 in
set_option maxHeartbeats 4000000 in
theorem rX2_topmostMark_5_7 {p : Program} {l : Launch} {e : Env} {s : State} {m : MethodId} {args : Array Value} {below : List Frame} {meth : Method} {c : Code} {D : va_G} {a : Nat → Nat} {cI cJ : ClassId} {tk : Nat} {tf : Nat → Int32} (C : Cx p s m args meth c RX2 cX2_topmostMark 2 D cI cJ tk tf (AR a 25 s.heap.size)) (hr : meth.sig.returnType = (some .int)) : ∀ (n : Nat) (q1 : Int32) (S : St) (x : Int32 × St) (H : Heap) (locs : List Loc) (ls : Array Slot), fX2_topmostMark_5_7 n q1 S = some x → Wd D (wE a cI cJ) (AR a 25 s.heap.size) s S H locs → lv_has ls 2 [(0, .ref (a 5)), (1, .int q1)] → W p l e { frames := 0, cells := 0, slots := 0, locals := 0 } s m args below meth c H locs 0 0 (MQ below (Qi D (wE a cI cJ) (AR a 25 s.heap.size) x) args s 0 0 (AR a 25 s.heap.size)) (F0 m 7 ls []) := by
  intro n
  induction n with
  | zero => intro q1 S x H locs ls hf G hl; cases hf
  | succ n ih =>
    intro q1 S x H locs ls hf G hl
    rw [fX2_topmostMark_5_7.eq_2] at hf
    refine lv_iload_n C.1 C.2.1 dX2_topmostMark_7 rfl (lv_at hl 1 rfl) ?_
    refine lv_if_lt (tgt := 29) C.1 C.2.1 dX2_topmostMark_8 (by decide) (fun c1 => ?_) (fun c1 => ?_)
    · replace hf := ifp c1 hf
      refine lv_iconst (v := (-1)) C.1 C.2.1 dX2_topmostMark_29 (by decide) ?_
      exact r_iret C hr G hf dX2_topmostMark_30
    · replace hf := ifq c1 hf
      refine lv_aload_n C.1 C.2.1 dX2_topmostMark_11 rfl (lv_at hl 0 rfl) ?_
      refine gE_5_0 C G k_110 dX2_topmostMark_12 ?_
      refine lv_iload_n C.1 C.2.1 dX2_topmostMark_15 rfl (lv_at hl 1 rfl) ?_
      obtain ⟨hi2, hf⟩ := ifn hf
      refine aE_6 C G hi2 dX2_topmostMark_16 ?_
      refine lv_iconst (v := 3) C.1 C.2.1 dX2_topmostMark_17 (by decide) ?_
      refine lv_icmp_ne (tgt := 23) C.1 C.2.1 dX2_topmostMark_18 (by decide) (fun c3 => ?_) (fun c3 => ?_)
      · replace hf := ifq c3 hf
        obtain ⟨y4, ey4, hf⟩ := stv_e hf
        refine lv_iinc (v := y4) (lv' := [(1, .int y4), (0, .ref (a 5))]) C.1 C.2.1 dX2_topmostMark_23 hl (k := 1) rfl (by rw [ey4]; rfl) (by decide) rfl (fun ls hl => ?_)
        refine lv_goto (tgt := 7) C.1 C.2.1 dX2_topmostMark_26 (by decide) ?_
        exact ih y4 S _ _ _ _ hf G (lv_sub hl [1, 0] rfl)
      · replace hf := ifp c3 hf
        refine lv_iload_n C.1 C.2.1 dX2_topmostMark_21 rfl (lv_at hl 1 rfl) ?_
        exact r_iret C hr G hf dX2_topmostMark_22
set_option maxRecDepth 100000 in
set_option maxHeartbeats 4000000 in
theorem mX2_topmostMark_5 (l : Launch) (D : va_G) (a : Nat → Nat) (cI cJ : ClassId) (tk : Nat) (tf : Nat → Int32) (S : St) (x : Int32 × St) (hf : fX2_topmostMark_5 S = some x) : Mi l D (wE a cI cJ) a 25 cI cJ tk tf yX2_topmostMark cX2_topmostMark 2 (some .int) { frames := 0, cells := 0, slots := 0, locals := 0 } [.ref (a 5)] S x := by
  refine opn_i (by decide +kernel) (Nat.le_of_ble_eq_true rfl) (fun p e s m below meth c C hr G ls hl => ?_)
  replace hl : lv_has ls 2 [(0, .ref (a 5))] := hl
  unfold fX2_topmostMark_5 at hf
  refine lv_aload_n C.1 C.2.1 dX2_topmostMark_0 rfl (lv_at hl 0 rfl) ?_
  refine gE_5_2 C G k_112 dX2_topmostMark_1 ?_
  refine lv_iconst (v := 1) C.1 C.2.1 dX2_topmostMark_4 (by decide) ?_
  refine lv_isub C.1 C.2.1 dX2_topmostMark_5 ?_
  obtain ⟨y1, ey1, hf⟩ := stv_e hf
  refine nm_i ey1 ?_
  refine lv_istore_n (lv' := [(1, .int y1), (0, .ref (a 5))]) C.1 C.2.1 dX2_topmostMark_6 rfl hl (by decide) rfl (fun ls hl => ?_)
  exact rX2_topmostMark_5_7 C hr 500 y1 S _ _ _ _ hf G (lv_sub hl [1, 0] rfl)
