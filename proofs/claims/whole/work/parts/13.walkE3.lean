theorem dX3_clearToMark_0 : decode cX3_clearToMark 0 = .ok (.aload_n 0, 1) := by decide +kernel
theorem dX3_clearToMark_1 : decode cX3_clearToMark 1 = .ok (.getfield 12, 3) := by decide +kernel
theorem dX3_clearToMark_4 : decode cX3_clearToMark 4 = .ok (.invokevirtual 86, 3) := by decide +kernel
theorem dX3_clearToMark_7 : decode cX3_clearToMark 7 = .ok (.istore_n 1, 1) := by decide +kernel
theorem dX3_clearToMark_8 : decode cX3_clearToMark 8 = .ok (.iload_n 1, 1) := by decide +kernel
theorem dX3_clearToMark_9 : decode cX3_clearToMark 9 = .ok (.iconst (-1), 1) := by decide +kernel
theorem dX3_clearToMark_10 : decode cX3_clearToMark 10 = .ok (.if_icmp .ne 6, 3) := by decide +kernel
theorem dX3_clearToMark_13 : decode cX3_clearToMark 13 = .ok (.bipush 7, 2) := by decide +kernel
theorem dX3_clearToMark_15 : decode cX3_clearToMark 15 = .ok (.ireturn, 1) := by decide +kernel
theorem dX3_clearToMark_16 : decode cX3_clearToMark 16 = .ok (.aload_n 0, 1) := by decide +kernel
theorem dX3_clearToMark_17 : decode cX3_clearToMark 17 = .ok (.getfield 12, 3) := by decide +kernel
theorem dX3_clearToMark_20 : decode cX3_clearToMark 20 = .ok (.aload_n 0, 1) := by decide +kernel
theorem dX3_clearToMark_21 : decode cX3_clearToMark 21 = .ok (.getfield 12, 3) := by decide +kernel
theorem dX3_clearToMark_24 : decode cX3_clearToMark 24 = .ok (.invokevirtual 61, 3) := by decide +kernel
theorem dX3_clearToMark_27 : decode cX3_clearToMark 27 = .ok (.iload_n 1, 1) := by decide +kernel
theorem dX3_clearToMark_28 : decode cX3_clearToMark 28 = .ok (.isub, 1) := by decide +kernel
theorem dX3_clearToMark_29 : decode cX3_clearToMark 29 = .ok (.invokevirtual 44, 3) := by decide +kernel
theorem dX3_clearToMark_32 : decode cX3_clearToMark 32 = .ok (.iconst 0, 1) := by decide +kernel
theorem dX3_clearToMark_33 : decode cX3_clearToMark 33 = .ok (.ireturn, 1) := by decide +kernel
theorem dX3_countToMark_0 : decode cX3_countToMark 0 = .ok (.aload_n 0, 1) := by decide +kernel
theorem dX3_countToMark_1 : decode cX3_countToMark 1 = .ok (.getfield 12, 3) := by decide +kernel
theorem dX3_countToMark_4 : decode cX3_countToMark 4 = .ok (.invokevirtual 86, 3) := by decide +kernel
theorem dX3_countToMark_7 : decode cX3_countToMark 7 = .ok (.istore_n 1, 1) := by decide +kernel
theorem dX3_countToMark_8 : decode cX3_countToMark 8 = .ok (.iload_n 1, 1) := by decide +kernel
theorem dX3_countToMark_9 : decode cX3_countToMark 9 = .ok (.iconst (-1), 1) := by decide +kernel
theorem dX3_countToMark_10 : decode cX3_countToMark 10 = .ok (.if_icmp .ne 6, 3) := by decide +kernel
theorem dX3_countToMark_13 : decode cX3_countToMark 13 = .ok (.bipush 7, 2) := by decide +kernel
theorem dX3_countToMark_15 : decode cX3_countToMark 15 = .ok (.ireturn, 1) := by decide +kernel
theorem dX3_countToMark_16 : decode cX3_countToMark 16 = .ok (.aload_n 0, 1) := by decide +kernel
theorem dX3_countToMark_17 : decode cX3_countToMark 17 = .ok (.getfield 12, 3) := by decide +kernel
theorem dX3_countToMark_20 : decode cX3_countToMark 20 = .ok (.iconst 0, 1) := by decide +kernel
theorem dX3_countToMark_21 : decode cX3_countToMark 21 = .ok (.aload_n 0, 1) := by decide +kernel
theorem dX3_countToMark_22 : decode cX3_countToMark 22 = .ok (.getfield 12, 3) := by decide +kernel
theorem dX3_countToMark_25 : decode cX3_countToMark 25 = .ok (.invokevirtual 61, 3) := by decide +kernel
theorem dX3_countToMark_28 : decode cX3_countToMark 28 = .ok (.iconst 1, 1) := by decide +kernel
theorem dX3_countToMark_29 : decode cX3_countToMark 29 = .ok (.isub, 1) := by decide +kernel
theorem dX3_countToMark_30 : decode cX3_countToMark 30 = .ok (.iload_n 1, 1) := by decide +kernel
theorem dX3_countToMark_31 : decode cX3_countToMark 31 = .ok (.isub, 1) := by decide +kernel
theorem dX3_countToMark_32 : decode cX3_countToMark 32 = .ok (.invokevirtual 82, 3) := by decide +kernel
theorem dX3_countToMark_35 : decode cX3_countToMark 35 = .ok (.ifCond .eq 7, 3) := by decide +kernel
theorem dX3_countToMark_38 : decode cX3_countToMark 38 = .ok (.iconst 0, 1) := by decide +kernel
theorem dX3_countToMark_39 : decode cX3_countToMark 39 = .ok (.goto 4, 3) := by decide +kernel
theorem dX3_countToMark_42 : decode cX3_countToMark 42 = .ok (.iconst 2, 1) := by decide +kernel
theorem dX3_countToMark_43 : decode cX3_countToMark 43 = .ok (.ireturn, 1) := by decide +kernel
theorem dX3_more_0 : decode cX3_more 0 = .ok (.aload_n 0, 1) := by decide +kernel
theorem dX3_more_1 : decode cX3_more 1 = .ok (.getfield 12, 3) := by decide +kernel
theorem dX3_more_4 : decode cX3_more 4 = .ok (.iload_n 1, 1) := by decide +kernel
theorem dX3_more_5 : decode cX3_more 5 = .ok (.iload_n 2, 1) := by decide +kernel
theorem dX3_more_6 : decode cX3_more 6 = .ok (.invokevirtual 82, 3) := by decide +kernel
theorem dX3_more_9 : decode cX3_more 9 = .ok (.ifCond .eq 7, 3) := by decide +kernel
theorem dX3_more_12 : decode cX3_more 12 = .ok (.iconst 0, 1) := by decide +kernel
theorem dX3_more_13 : decode cX3_more 13 = .ok (.goto 4, 3) := by decide +kernel
theorem dX3_more_16 : decode cX3_more 16 = .ok (.iconst 2, 1) := by decide +kernel
theorem dX3_more_17 : decode cX3_more 17 = .ok (.ireturn, 1) := by decide +kernel
theorem dX3_pick_0 : decode cX3_pick 0 = .ok (.iload_n 1, 1) := by decide +kernel
theorem dX3_pick_1 : decode cX3_pick 1 = .ok (.ifCond .ge 5, 3) := by decide +kernel
theorem dX3_pick_4 : decode cX3_pick 4 = .ok (.iconst 4, 1) := by decide +kernel
theorem dX3_pick_5 : decode cX3_pick 5 = .ok (.ireturn, 1) := by decide +kernel
theorem dX3_pick_6 : decode cX3_pick 6 = .ok (.iload_n 1, 1) := by decide +kernel
theorem dX3_pick_7 : decode cX3_pick 7 = .ok (.aload_n 0, 1) := by decide +kernel
theorem dX3_pick_8 : decode cX3_pick 8 = .ok (.getfield 12, 3) := by decide +kernel
theorem dX3_pick_11 : decode cX3_pick 11 = .ok (.invokevirtual 61, 3) := by decide +kernel
theorem dX3_pick_14 : decode cX3_pick 14 = .ok (.iconst 1, 1) := by decide +kernel
theorem dX3_pick_15 : decode cX3_pick 15 = .ok (.isub, 1) := by decide +kernel
theorem dX3_pick_16 : decode cX3_pick 16 = .ok (.if_icmp .lt 5, 3) := by decide +kernel
theorem dX3_pick_19 : decode cX3_pick 19 = .ok (.iconst 1, 1) := by decide +kernel
theorem dX3_pick_20 : decode cX3_pick 20 = .ok (.ireturn, 1) := by decide +kernel
theorem dX3_pick_21 : decode cX3_pick 21 = .ok (.aload_n 0, 1) := by decide +kernel
theorem dX3_pick_22 : decode cX3_pick 22 = .ok (.getfield 12, 3) := by decide +kernel
theorem dX3_pick_25 : decode cX3_pick 25 = .ok (.iconst 1, 1) := by decide +kernel
theorem dX3_pick_26 : decode cX3_pick 26 = .ok (.aload_n 0, 1) := by decide +kernel
theorem dX3_pick_27 : decode cX3_pick 27 = .ok (.getfield 12, 3) := by decide +kernel
theorem dX3_pick_30 : decode cX3_pick 30 = .ok (.iload_n 1, 1) := by decide +kernel
theorem dX3_pick_31 : decode cX3_pick 31 = .ok (.iconst 1, 1) := by decide +kernel
theorem dX3_pick_32 : decode cX3_pick 32 = .ok (.iadd, 1) := by decide +kernel
theorem dX3_pick_33 : decode cX3_pick 33 = .ok (.invokevirtual 48, 3) := by decide +kernel
theorem dX3_pick_36 : decode cX3_pick 36 = .ok (.aload_n 0, 1) := by decide +kernel
theorem dX3_pick_37 : decode cX3_pick 37 = .ok (.getfield 12, 3) := by decide +kernel
theorem dX3_pick_40 : decode cX3_pick 40 = .ok (.iload_n 1, 1) := by decide +kernel
theorem dX3_pick_41 : decode cX3_pick 41 = .ok (.iconst 1, 1) := by decide +kernel
theorem dX3_pick_42 : decode cX3_pick 42 = .ok (.iadd, 1) := by decide +kernel
theorem dX3_pick_43 : decode cX3_pick 43 = .ok (.invokevirtual 25, 3) := by decide +kernel
theorem dX3_pick_46 : decode cX3_pick 46 = .ok (.invokevirtual 40, 3) := by decide +kernel
theorem dX3_pick_49 : decode cX3_pick 49 = .ok (.iconst 0, 1) := by decide +kernel
theorem dX3_pick_50 : decode cX3_pick 50 = .ok (.ireturn, 1) := by decide +kernel
theorem dX3_swap_0 : decode cX3_swap 0 = .ok (.aload_n 0, 1) := by decide +kernel
theorem dX3_swap_1 : decode cX3_swap 1 = .ok (.getfield 12, 3) := by decide +kernel
theorem dX3_swap_4 : decode cX3_swap 4 = .ok (.iconst 1, 1) := by decide +kernel
theorem dX3_swap_5 : decode cX3_swap 5 = .ok (.invokevirtual 48, 3) := by decide +kernel
theorem dX3_swap_8 : decode cX3_swap 8 = .ok (.istore_n 1, 1) := by decide +kernel
theorem dX3_swap_9 : decode cX3_swap 9 = .ok (.aload_n 0, 1) := by decide +kernel
theorem dX3_swap_10 : decode cX3_swap 10 = .ok (.getfield 12, 3) := by decide +kernel
theorem dX3_swap_13 : decode cX3_swap 13 = .ok (.iconst 1, 1) := by decide +kernel
theorem dX3_swap_14 : decode cX3_swap 14 = .ok (.invokevirtual 25, 3) := by decide +kernel
theorem dX3_swap_17 : decode cX3_swap 17 = .ok (.istore_n 2, 1) := by decide +kernel
theorem dX3_swap_18 : decode cX3_swap 18 = .ok (.aload_n 0, 1) := by decide +kernel
theorem dX3_swap_19 : decode cX3_swap 19 = .ok (.getfield 12, 3) := by decide +kernel
theorem dX3_swap_22 : decode cX3_swap 22 = .ok (.iconst 0, 1) := by decide +kernel
theorem dX3_swap_23 : decode cX3_swap 23 = .ok (.invokevirtual 48, 3) := by decide +kernel
theorem dX3_swap_26 : decode cX3_swap 26 = .ok (.istore_n 3, 1) := by decide +kernel
theorem dX3_swap_27 : decode cX3_swap 27 = .ok (.aload_n 0, 1) := by decide +kernel
theorem dX3_swap_28 : decode cX3_swap 28 = .ok (.getfield 12, 3) := by decide +kernel
theorem dX3_swap_31 : decode cX3_swap 31 = .ok (.iconst 0, 1) := by decide +kernel
theorem dX3_swap_32 : decode cX3_swap 32 = .ok (.invokevirtual 25, 3) := by decide +kernel
theorem dX3_swap_35 : decode cX3_swap 35 = .ok (.istore 4, 2) := by decide +kernel
theorem dX3_swap_37 : decode cX3_swap 37 = .ok (.aload_n 0, 1) := by decide +kernel
theorem dX3_swap_38 : decode cX3_swap 38 = .ok (.getfield 12, 3) := by decide +kernel
theorem dX3_swap_41 : decode cX3_swap 41 = .ok (.iconst 2, 1) := by decide +kernel
theorem dX3_swap_42 : decode cX3_swap 42 = .ok (.iload_n 3, 1) := by decide +kernel
theorem dX3_swap_43 : decode cX3_swap 43 = .ok (.iload 4, 2) := by decide +kernel
theorem dX3_swap_45 : decode cX3_swap 45 = .ok (.invokevirtual 40, 3) := by decide +kernel
theorem dX3_swap_48 : decode cX3_swap 48 = .ok (.aload_n 0, 1) := by decide +kernel
theorem dX3_swap_49 : decode cX3_swap 49 = .ok (.getfield 12, 3) := by decide +kernel
theorem dX3_swap_52 : decode cX3_swap 52 = .ok (.iload_n 1, 1) := by decide +kernel
theorem dX3_swap_53 : decode cX3_swap 53 = .ok (.iload_n 2, 1) := by decide +kernel
theorem dX3_swap_54 : decode cX3_swap 54 = .ok (.invokevirtual 82, 3) := by decide +kernel
theorem dX3_swap_57 : decode cX3_swap 57 = .ok (.pop, 1) := by decide +kernel
theorem dX3_swap_58 : decode cX3_swap 58 = .ok (.iconst 0, 1) := by decide +kernel
theorem dX3_swap_59 : decode cX3_swap 59 = .ok (.ireturn, 1) := by decide +kernel
theorem dX3_reckoned_0 : decode cX3_reckoned 0 = .ok (.aload_n 0, 1) := by decide +kernel
theorem dX3_reckoned_1 : decode cX3_reckoned 1 = .ok (.getfield 12, 3) := by decide +kernel
theorem dX3_reckoned_4 : decode cX3_reckoned 4 = .ok (.iconst 2, 1) := by decide +kernel
theorem dX3_reckoned_5 : decode cX3_reckoned 5 = .ok (.iload_n 1, 1) := by decide +kernel
theorem dX3_reckoned_6 : decode cX3_reckoned 6 = .ok (.iload_n 2, 1) := by decide +kernel
theorem dX3_reckoned_7 : decode cX3_reckoned 7 = .ok (.invokevirtual 40, 3) := by decide +kernel
theorem dX3_reckoned_10 : decode cX3_reckoned 10 = .ok (.iconst 0, 1) := by decide +kernel
theorem dX3_reckoned_11 : decode cX3_reckoned 11 = .ok (.ireturn, 1) := by decide +kernel
theorem dX3_topTwoAreTheSame_0 : decode cX3_topTwoAreTheSame 0 = .ok (.aload_n 0, 1) := by decide +kernel
theorem dX3_topTwoAreTheSame_1 : decode cX3_topTwoAreTheSame 1 = .ok (.getfield 12, 3) := by decide +kernel
theorem dX3_topTwoAreTheSame_4 : decode cX3_topTwoAreTheSame 4 = .ok (.iconst 0, 1) := by decide +kernel
theorem dX3_topTwoAreTheSame_5 : decode cX3_topTwoAreTheSame 5 = .ok (.invokevirtual 48, 3) := by decide +kernel
theorem dX3_topTwoAreTheSame_8 : decode cX3_topTwoAreTheSame 8 = .ok (.aload_n 0, 1) := by decide +kernel
theorem dX3_topTwoAreTheSame_9 : decode cX3_topTwoAreTheSame 9 = .ok (.getfield 12, 3) := by decide +kernel
theorem dX3_topTwoAreTheSame_12 : decode cX3_topTwoAreTheSame 12 = .ok (.iconst 1, 1) := by decide +kernel
theorem dX3_topTwoAreTheSame_13 : decode cX3_topTwoAreTheSame 13 = .ok (.invokevirtual 48, 3) := by decide +kernel
theorem dX3_topTwoAreTheSame_16 : decode cX3_topTwoAreTheSame 16 = .ok (.if_icmp .ne 26, 3) := by decide +kernel
theorem dX3_topTwoAreTheSame_19 : decode cX3_topTwoAreTheSame 19 = .ok (.aload_n 0, 1) := by decide +kernel
theorem dX3_topTwoAreTheSame_20 : decode cX3_topTwoAreTheSame 20 = .ok (.getfield 12, 3) := by decide +kernel
theorem dX3_topTwoAreTheSame_23 : decode cX3_topTwoAreTheSame 23 = .ok (.iconst 0, 1) := by decide +kernel
theorem dX3_topTwoAreTheSame_24 : decode cX3_topTwoAreTheSame 24 = .ok (.invokevirtual 25, 3) := by decide +kernel
theorem dX3_topTwoAreTheSame_27 : decode cX3_topTwoAreTheSame 27 = .ok (.aload_n 0, 1) := by decide +kernel
theorem dX3_topTwoAreTheSame_28 : decode cX3_topTwoAreTheSame 28 = .ok (.getfield 12, 3) := by decide +kernel
theorem dX3_topTwoAreTheSame_31 : decode cX3_topTwoAreTheSame 31 = .ok (.iconst 1, 1) := by decide +kernel
theorem dX3_topTwoAreTheSame_32 : decode cX3_topTwoAreTheSame 32 = .ok (.invokevirtual 25, 3) := by decide +kernel
theorem dX3_topTwoAreTheSame_35 : decode cX3_topTwoAreTheSame 35 = .ok (.if_icmp .ne 7, 3) := by decide +kernel
theorem dX3_topTwoAreTheSame_38 : decode cX3_topTwoAreTheSame 38 = .ok (.iconst 1, 1) := by decide +kernel
theorem dX3_topTwoAreTheSame_39 : decode cX3_topTwoAreTheSame 39 = .ok (.goto 4, 3) := by decide +kernel
theorem dX3_topTwoAreTheSame_42 : decode cX3_topTwoAreTheSame 42 = .ok (.iconst 0, 1) := by decide +kernel
theorem dX3_topTwoAreTheSame_43 : decode cX3_topTwoAreTheSame 43 = .ok (.ireturn, 1) := by decide +kernel
theorem dX3_divide_0 : decode cX3_divide 0 = .ok (.iload_n 2, 1) := by decide +kernel
theorem dX3_divide_1 : decode cX3_divide 1 = .ok (.ifCond .ne 6, 3) := by decide +kernel
theorem dX3_divide_4 : decode cX3_divide 4 = .ok (.bipush 6, 2) := by decide +kernel
theorem dX3_divide_6 : decode cX3_divide 6 = .ok (.ireturn, 1) := by decide +kernel
theorem dX3_divide_7 : decode cX3_divide 7 = .ok (.aload_n 0, 1) := by decide +kernel
theorem dX3_divide_8 : decode cX3_divide 8 = .ok (.getfield 12, 3) := by decide +kernel
theorem dX3_divide_11 : decode cX3_divide 11 = .ok (.iconst 2, 1) := by decide +kernel
theorem dX3_divide_12 : decode cX3_divide 12 = .ok (.iconst 0, 1) := by decide +kernel
theorem dX3_divide_13 : decode cX3_divide 13 = .ok (.iload_n 1, 1) := by decide +kernel
theorem dX3_divide_14 : decode cX3_divide 14 = .ok (.iload_n 2, 1) := by decide +kernel
theorem dX3_divide_15 : decode cX3_divide 15 = .ok (.idiv, 1) := by decide +kernel
theorem dX3_divide_16 : decode cX3_divide 16 = .ok (.invokevirtual 40, 3) := by decide +kernel
theorem dX3_divide_19 : decode cX3_divide 19 = .ok (.iconst 0, 1) := by decide +kernel
theorem dX3_divide_20 : decode cX3_divide 20 = .ok (.ireturn, 1) := by decide +kernel
theorem dX3_operate_0 : decode cX3_operate 0 = .ok (.iload_n 1, 1) := by decide +kernel
theorem dX3_operate_1 : decode cX3_operate 1 = .ok (.tableswitch 328 0 15 #[79, 102, 125, 148, 169, 187, 217, 238, 248, 269, 274, 287, 300, 305, 310, 315], 79) := by decide +kernel
theorem dX3_operate_80 : decode cX3_operate 80 = .ok (.aload_n 0, 1) := by decide +kernel
theorem dX3_operate_81 : decode cX3_operate 81 = .ok (.iconst 0, 1) := by decide +kernel
theorem dX3_operate_82 : decode cX3_operate 82 = .ok (.aload_n 0, 1) := by decide +kernel
theorem dX3_operate_83 : decode cX3_operate 83 = .ok (.getfield 12, 3) := by decide +kernel
theorem dX3_operate_86 : decode cX3_operate 86 = .ok (.iconst 1, 1) := by decide +kernel
theorem dX3_operate_87 : decode cX3_operate 87 = .ok (.invokevirtual 25, 3) := by decide +kernel
theorem dX3_operate_90 : decode cX3_operate 90 = .ok (.aload_n 0, 1) := by decide +kernel
theorem dX3_operate_91 : decode cX3_operate 91 = .ok (.getfield 12, 3) := by decide +kernel
theorem dX3_operate_94 : decode cX3_operate 94 = .ok (.iconst 0, 1) := by decide +kernel
theorem dX3_operate_95 : decode cX3_operate 95 = .ok (.invokevirtual 25, 3) := by decide +kernel
theorem dX3_operate_98 : decode cX3_operate 98 = .ok (.iadd, 1) := by decide +kernel
theorem dX3_operate_99 : decode cX3_operate 99 = .ok (.invokevirtual 29, 3) := by decide +kernel
theorem dX3_operate_102 : decode cX3_operate 102 = .ok (.ireturn, 1) := by decide +kernel
theorem dX3_operate_103 : decode cX3_operate 103 = .ok (.aload_n 0, 1) := by decide +kernel
theorem dX3_operate_104 : decode cX3_operate 104 = .ok (.iconst 0, 1) := by decide +kernel
theorem dX3_operate_105 : decode cX3_operate 105 = .ok (.aload_n 0, 1) := by decide +kernel
theorem dX3_operate_106 : decode cX3_operate 106 = .ok (.getfield 12, 3) := by decide +kernel
theorem dX3_operate_109 : decode cX3_operate 109 = .ok (.iconst 1, 1) := by decide +kernel
theorem dX3_operate_110 : decode cX3_operate 110 = .ok (.invokevirtual 25, 3) := by decide +kernel
theorem dX3_operate_113 : decode cX3_operate 113 = .ok (.aload_n 0, 1) := by decide +kernel
theorem dX3_operate_114 : decode cX3_operate 114 = .ok (.getfield 12, 3) := by decide +kernel
theorem dX3_operate_117 : decode cX3_operate 117 = .ok (.iconst 0, 1) := by decide +kernel
theorem dX3_operate_118 : decode cX3_operate 118 = .ok (.invokevirtual 25, 3) := by decide +kernel
theorem dX3_operate_121 : decode cX3_operate 121 = .ok (.isub, 1) := by decide +kernel
theorem dX3_operate_122 : decode cX3_operate 122 = .ok (.invokevirtual 29, 3) := by decide +kernel
theorem dX3_operate_125 : decode cX3_operate 125 = .ok (.ireturn, 1) := by decide +kernel
theorem dX3_operate_126 : decode cX3_operate 126 = .ok (.aload_n 0, 1) := by decide +kernel
theorem dX3_operate_127 : decode cX3_operate 127 = .ok (.iconst 0, 1) := by decide +kernel
theorem dX3_operate_128 : decode cX3_operate 128 = .ok (.aload_n 0, 1) := by decide +kernel
theorem dX3_operate_129 : decode cX3_operate 129 = .ok (.getfield 12, 3) := by decide +kernel
theorem dX3_operate_132 : decode cX3_operate 132 = .ok (.iconst 1, 1) := by decide +kernel
theorem dX3_operate_133 : decode cX3_operate 133 = .ok (.invokevirtual 25, 3) := by decide +kernel
theorem dX3_operate_136 : decode cX3_operate 136 = .ok (.aload_n 0, 1) := by decide +kernel
theorem dX3_operate_137 : decode cX3_operate 137 = .ok (.getfield 12, 3) := by decide +kernel
theorem dX3_operate_140 : decode cX3_operate 140 = .ok (.iconst 0, 1) := by decide +kernel
theorem dX3_operate_141 : decode cX3_operate 141 = .ok (.invokevirtual 25, 3) := by decide +kernel
theorem dX3_operate_144 : decode cX3_operate 144 = .ok (.imul, 1) := by decide +kernel
theorem dX3_operate_145 : decode cX3_operate 145 = .ok (.invokevirtual 29, 3) := by decide +kernel
theorem dX3_operate_148 : decode cX3_operate 148 = .ok (.ireturn, 1) := by decide +kernel
theorem dX3_operate_149 : decode cX3_operate 149 = .ok (.aload_n 0, 1) := by decide +kernel
theorem dX3_operate_150 : decode cX3_operate 150 = .ok (.aload_n 0, 1) := by decide +kernel
theorem dX3_operate_151 : decode cX3_operate 151 = .ok (.getfield 12, 3) := by decide +kernel
theorem dX3_operate_154 : decode cX3_operate 154 = .ok (.iconst 1, 1) := by decide +kernel
theorem dX3_operate_155 : decode cX3_operate 155 = .ok (.invokevirtual 25, 3) := by decide +kernel
theorem dX3_operate_158 : decode cX3_operate 158 = .ok (.aload_n 0, 1) := by decide +kernel
theorem dX3_operate_159 : decode cX3_operate 159 = .ok (.getfield 12, 3) := by decide +kernel
theorem dX3_operate_162 : decode cX3_operate 162 = .ok (.iconst 0, 1) := by decide +kernel
theorem dX3_operate_163 : decode cX3_operate 163 = .ok (.invokevirtual 25, 3) := by decide +kernel
theorem dX3_operate_166 : decode cX3_operate 166 = .ok (.invokevirtual 33, 3) := by decide +kernel
theorem dX3_operate_169 : decode cX3_operate 169 = .ok (.ireturn, 1) := by decide +kernel
theorem dX3_operate_170 : decode cX3_operate 170 = .ok (.aload_n 0, 1) := by decide +kernel
theorem dX3_operate_171 : decode cX3_operate 171 = .ok (.iconst 1, 1) := by decide +kernel
theorem dX3_operate_172 : decode cX3_operate 172 = .ok (.aload_n 0, 1) := by decide +kernel
theorem dX3_operate_173 : decode cX3_operate 173 = .ok (.invokevirtual 36, 3) := by decide +kernel
theorem dX3_operate_176 : decode cX3_operate 176 = .ok (.ifCond .eq 7, 3) := by decide +kernel
theorem dX3_operate_179 : decode cX3_operate 179 = .ok (.iconst 1, 1) := by decide +kernel
theorem dX3_operate_180 : decode cX3_operate 180 = .ok (.goto 4, 3) := by decide +kernel
theorem dX3_operate_183 : decode cX3_operate 183 = .ok (.iconst 0, 1) := by decide +kernel
theorem dX3_operate_184 : decode cX3_operate 184 = .ok (.invokevirtual 29, 3) := by decide +kernel
theorem dX3_operate_187 : decode cX3_operate 187 = .ok (.ireturn, 1) := by decide +kernel
theorem dX3_operate_188 : decode cX3_operate 188 = .ok (.aload_n 0, 1) := by decide +kernel
theorem dX3_operate_189 : decode cX3_operate 189 = .ok (.iconst 1, 1) := by decide +kernel
theorem dX3_operate_190 : decode cX3_operate 190 = .ok (.aload_n 0, 1) := by decide +kernel
theorem dX3_operate_191 : decode cX3_operate 191 = .ok (.getfield 12, 3) := by decide +kernel
theorem dX3_operate_194 : decode cX3_operate 194 = .ok (.iconst 1, 1) := by decide +kernel
theorem dX3_operate_195 : decode cX3_operate 195 = .ok (.invokevirtual 25, 3) := by decide +kernel
theorem dX3_operate_198 : decode cX3_operate 198 = .ok (.aload_n 0, 1) := by decide +kernel
theorem dX3_operate_199 : decode cX3_operate 199 = .ok (.getfield 12, 3) := by decide +kernel
theorem dX3_operate_202 : decode cX3_operate 202 = .ok (.iconst 0, 1) := by decide +kernel
theorem dX3_operate_203 : decode cX3_operate 203 = .ok (.invokevirtual 25, 3) := by decide +kernel
theorem dX3_operate_206 : decode cX3_operate 206 = .ok (.if_icmp .ge 7, 3) := by decide +kernel
theorem dX3_operate_209 : decode cX3_operate 209 = .ok (.iconst 1, 1) := by decide +kernel
theorem dX3_operate_210 : decode cX3_operate 210 = .ok (.goto 4, 3) := by decide +kernel
theorem dX3_operate_213 : decode cX3_operate 213 = .ok (.iconst 0, 1) := by decide +kernel
theorem dX3_operate_214 : decode cX3_operate 214 = .ok (.invokevirtual 29, 3) := by decide +kernel
theorem dX3_operate_217 : decode cX3_operate 217 = .ok (.ireturn, 1) := by decide +kernel
theorem dX3_operate_218 : decode cX3_operate 218 = .ok (.aload_n 0, 1) := by decide +kernel
theorem dX3_operate_219 : decode cX3_operate 219 = .ok (.getfield 12, 3) := by decide +kernel
theorem dX3_operate_222 : decode cX3_operate 222 = .ok (.iconst 1, 1) := by decide +kernel
theorem dX3_operate_223 : decode cX3_operate 223 = .ok (.iconst 1, 1) := by decide +kernel
theorem dX3_operate_224 : decode cX3_operate 224 = .ok (.iconst 1, 1) := by decide +kernel
theorem dX3_operate_225 : decode cX3_operate 225 = .ok (.aload_n 0, 1) := by decide +kernel
theorem dX3_operate_226 : decode cX3_operate 226 = .ok (.getfield 12, 3) := by decide +kernel
theorem dX3_operate_229 : decode cX3_operate 229 = .ok (.iconst 0, 1) := by decide +kernel
theorem dX3_operate_230 : decode cX3_operate 230 = .ok (.invokevirtual 25, 3) := by decide +kernel
theorem dX3_operate_233 : decode cX3_operate 233 = .ok (.isub, 1) := by decide +kernel
theorem dX3_operate_234 : decode cX3_operate 234 = .ok (.invokevirtual 40, 3) := by decide +kernel
theorem dX3_operate_237 : decode cX3_operate 237 = .ok (.iconst 0, 1) := by decide +kernel
theorem dX3_operate_238 : decode cX3_operate 238 = .ok (.ireturn, 1) := by decide +kernel
theorem dX3_operate_239 : decode cX3_operate 239 = .ok (.aload_n 0, 1) := by decide +kernel
theorem dX3_operate_240 : decode cX3_operate 240 = .ok (.getfield 12, 3) := by decide +kernel
theorem dX3_operate_243 : decode cX3_operate 243 = .ok (.iconst 1, 1) := by decide +kernel
theorem dX3_operate_244 : decode cX3_operate 244 = .ok (.invokevirtual 44, 3) := by decide +kernel
theorem dX3_operate_247 : decode cX3_operate 247 = .ok (.iconst 0, 1) := by decide +kernel
theorem dX3_operate_248 : decode cX3_operate 248 = .ok (.ireturn, 1) := by decide +kernel
theorem dX3_operate_249 : decode cX3_operate 249 = .ok (.aload_n 0, 1) := by decide +kernel
theorem dX3_operate_250 : decode cX3_operate 250 = .ok (.aload_n 0, 1) := by decide +kernel
theorem dX3_operate_251 : decode cX3_operate 251 = .ok (.getfield 12, 3) := by decide +kernel
theorem dX3_operate_254 : decode cX3_operate 254 = .ok (.iconst 0, 1) := by decide +kernel
theorem dX3_operate_255 : decode cX3_operate 255 = .ok (.invokevirtual 48, 3) := by decide +kernel
theorem dX3_operate_258 : decode cX3_operate 258 = .ok (.aload_n 0, 1) := by decide +kernel
theorem dX3_operate_259 : decode cX3_operate 259 = .ok (.getfield 12, 3) := by decide +kernel
theorem dX3_operate_262 : decode cX3_operate 262 = .ok (.iconst 0, 1) := by decide +kernel
theorem dX3_operate_263 : decode cX3_operate 263 = .ok (.invokevirtual 25, 3) := by decide +kernel
theorem dX3_operate_266 : decode cX3_operate 266 = .ok (.invokevirtual 51, 3) := by decide +kernel
theorem dX3_operate_269 : decode cX3_operate 269 = .ok (.ireturn, 1) := by decide +kernel
theorem dX3_operate_270 : decode cX3_operate 270 = .ok (.aload_n 0, 1) := by decide +kernel
theorem dX3_operate_271 : decode cX3_operate 271 = .ok (.invokevirtual 54, 3) := by decide +kernel
theorem dX3_operate_274 : decode cX3_operate 274 = .ok (.ireturn, 1) := by decide +kernel
theorem dX3_operate_275 : decode cX3_operate 275 = .ok (.aload_n 0, 1) := by decide +kernel
theorem dX3_operate_276 : decode cX3_operate 276 = .ok (.aload_n 0, 1) := by decide +kernel
theorem dX3_operate_277 : decode cX3_operate 277 = .ok (.getfield 12, 3) := by decide +kernel
theorem dX3_operate_280 : decode cX3_operate 280 = .ok (.iconst 0, 1) := by decide +kernel
theorem dX3_operate_281 : decode cX3_operate 281 = .ok (.invokevirtual 25, 3) := by decide +kernel
theorem dX3_operate_284 : decode cX3_operate 284 = .ok (.invokevirtual 58, 3) := by decide +kernel
theorem dX3_operate_287 : decode cX3_operate 287 = .ok (.ireturn, 1) := by decide +kernel
theorem dX3_operate_288 : decode cX3_operate 288 = .ok (.aload_n 0, 1) := by decide +kernel
theorem dX3_operate_289 : decode cX3_operate 289 = .ok (.iconst 0, 1) := by decide +kernel
theorem dX3_operate_290 : decode cX3_operate 290 = .ok (.aload_n 0, 1) := by decide +kernel
theorem dX3_operate_291 : decode cX3_operate 291 = .ok (.getfield 12, 3) := by decide +kernel
theorem dX3_operate_294 : decode cX3_operate 294 = .ok (.invokevirtual 61, 3) := by decide +kernel
theorem dX3_operate_297 : decode cX3_operate 297 = .ok (.invokevirtual 51, 3) := by decide +kernel
theorem dX3_operate_300 : decode cX3_operate 300 = .ok (.ireturn, 1) := by decide +kernel
theorem dX3_operate_301 : decode cX3_operate 301 = .ok (.aload_n 0, 1) := by decide +kernel
theorem dX3_operate_302 : decode cX3_operate 302 = .ok (.invokevirtual 64, 3) := by decide +kernel
theorem dX3_operate_305 : decode cX3_operate 305 = .ok (.ireturn, 1) := by decide +kernel
theorem dX3_operate_306 : decode cX3_operate 306 = .ok (.aload_n 0, 1) := by decide +kernel
theorem dX3_operate_307 : decode cX3_operate 307 = .ok (.invokevirtual 67, 3) := by decide +kernel
theorem dX3_operate_310 : decode cX3_operate 310 = .ok (.ireturn, 1) := by decide +kernel
theorem dX3_operate_311 : decode cX3_operate 311 = .ok (.aload_n 0, 1) := by decide +kernel
theorem dX3_operate_312 : decode cX3_operate 312 = .ok (.invokevirtual 70, 3) := by decide +kernel
theorem dX3_operate_315 : decode cX3_operate 315 = .ok (.ireturn, 1) := by decide +kernel
theorem dX3_operate_316 : decode cX3_operate 316 = .ok (.aload_n 0, 1) := by decide +kernel
theorem dX3_operate_317 : decode cX3_operate 317 = .ok (.aload_n 0, 1) := by decide +kernel
theorem dX3_operate_318 : decode cX3_operate 318 = .ok (.getfield 12, 3) := by decide +kernel
theorem dX3_operate_321 : decode cX3_operate 321 = .ok (.iconst 0, 1) := by decide +kernel
theorem dX3_operate_322 : decode cX3_operate 322 = .ok (.invokevirtual 25, 3) := by decide +kernel
theorem dX3_operate_325 : decode cX3_operate 325 = .ok (.invokevirtual 73, 3) := by decide +kernel
theorem dX3_operate_328 : decode cX3_operate 328 = .ok (.ireturn, 1) := by decide +kernel
theorem dX3_operate_329 : decode cX3_operate 329 = .ok (.iconst 4, 1) := by decide +kernel
theorem dX3_operate_330 : decode cX3_operate 330 = .ok (.ireturn, 1) := by decide +kernel
theorem dX5_has_0 : decode cX5_has 0 = .ok (.iload_n 1, 1) := by decide +kernel
theorem dX5_has_1 : decode cX5_has 1 = .ok (.ifCond .lt 12, 3) := by decide +kernel
theorem dX5_has_4 : decode cX5_has 4 = .ok (.iload_n 1, 1) := by decide +kernel
theorem dX5_has_5 : decode cX5_has 5 = .ok (.iconst 5, 1) := by decide +kernel
theorem dX5_has_6 : decode cX5_has 6 = .ok (.if_icmp .gt 7, 3) := by decide +kernel
theorem dX5_has_9 : decode cX5_has 9 = .ok (.iconst 1, 1) := by decide +kernel
theorem dX5_has_10 : decode cX5_has 10 = .ok (.goto 4, 3) := by decide +kernel
theorem dX5_has_13 : decode cX5_has 13 = .ok (.iconst 0, 1) := by decide +kernel
theorem dX5_has_14 : decode cX5_has 14 = .ok (.ireturn, 1) := by decide +kernel
theorem dX5_told_0 : decode cX5_told 0 = .ok (.iload_n 1, 1) := by decide +kernel
theorem dX5_told_1 : decode cX5_told 1 = .ok (.tableswitch 71 0 4 #[35, 40, 45, 58, 63], 35) := by decide +kernel
theorem dX5_told_36 : decode cX5_told 36 = .ok (.aload_n 0, 1) := by decide +kernel
theorem dX5_told_37 : decode cX5_told 37 = .ok (.getfield 22, 3) := by decide +kernel
theorem dX5_told_40 : decode cX5_told 40 = .ok (.ireturn, 1) := by decide +kernel
theorem dX5_told_41 : decode cX5_told 41 = .ok (.aload_n 0, 1) := by decide +kernel
theorem dX5_told_42 : decode cX5_told 42 = .ok (.getfield 18, 3) := by decide +kernel
theorem dX5_told_45 : decode cX5_told 45 = .ok (.ireturn, 1) := by decide +kernel
theorem dX5_told_46 : decode cX5_told 46 = .ok (.aload_n 0, 1) := by decide +kernel
theorem dX5_told_47 : decode cX5_told 47 = .ok (.getfield 25, 3) := by decide +kernel
theorem dX5_told_50 : decode cX5_told 50 = .ok (.ifCond .eq 7, 3) := by decide +kernel
theorem dX5_told_53 : decode cX5_told 53 = .ok (.iconst 1, 1) := by decide +kernel
theorem dX5_told_54 : decode cX5_told 54 = .ok (.goto 4, 3) := by decide +kernel
theorem dX5_told_57 : decode cX5_told 57 = .ok (.iconst 0, 1) := by decide +kernel
theorem dX5_told_58 : decode cX5_told 58 = .ok (.ireturn, 1) := by decide +kernel
theorem dX5_told_59 : decode cX5_told 59 = .ok (.aload_n 0, 1) := by decide +kernel
theorem dX5_told_60 : decode cX5_told 60 = .ok (.getfield 29, 3) := by decide +kernel
theorem dX5_told_63 : decode cX5_told 63 = .ok (.ireturn, 1) := by decide +kernel
theorem dX5_told_64 : decode cX5_told 64 = .ok (.aload_n 0, 1) := by decide +kernel
theorem dX5_told_65 : decode cX5_told 65 = .ok (.getfield 12, 3) := by decide +kernel
theorem dX5_told_68 : decode cX5_told 68 = .ok (.invokevirtual 32, 3) := by decide +kernel
theorem dX5_told_71 : decode cX5_told 71 = .ok (.ireturn, 1) := by decide +kernel
theorem dX5_told_72 : decode cX5_told 72 = .ok (.aload_n 0, 1) := by decide +kernel
theorem dX5_told_73 : decode cX5_told 73 = .ok (.getfield 36, 3) := by decide +kernel
theorem dX5_told_76 : decode cX5_told 76 = .ok (.ireturn, 1) := by decide +kernel
theorem dX5_noMoreNew_0 : decode cX5_noMoreNew 0 = .ok (.aload_n 0, 1) := by decide +kernel
theorem dX5_noMoreNew_1 : decode cX5_noMoreNew 1 = .ok (.iconst 0, 1) := by decide +kernel
theorem dX5_noMoreNew_2 : decode cX5_noMoreNew 2 = .ok (.putfield 25, 3) := by decide +kernel
theorem dX5_noMoreNew_5 : decode cX5_noMoreNew 5 = .ok (.return_, 1) := by decide +kernel
theorem dX7_tell_0 : decode cX7_tell 0 = .ok (.aload_n 0, 1) := by decide +kernel
theorem dX7_tell_1 : decode cX7_tell 1 = .ok (.getfield 54, 3) := by decide +kernel
theorem dX7_tell_4 : decode cX7_tell 4 = .ok (.iload_n 1, 1) := by decide +kernel
theorem dX7_tell_5 : decode cX7_tell 5 = .ok (.invokevirtual 131, 3) := by decide +kernel
theorem dX7_tell_8 : decode cX7_tell 8 = .ok (.ifCond .ne 5, 3) := by decide +kernel
theorem dX7_tell_11 : decode cX7_tell 11 = .ok (.iconst 4, 1) := by decide +kernel
theorem dX7_tell_12 : decode cX7_tell 12 = .ok (.ireturn, 1) := by decide +kernel
theorem dX7_tell_13 : decode cX7_tell 13 = .ok (.aload_n 0, 1) := by decide +kernel
theorem dX7_tell_14 : decode cX7_tell 14 = .ok (.getfield 27, 3) := by decide +kernel
theorem dX7_tell_17 : decode cX7_tell 17 = .ok (.iconst 1, 1) := by decide +kernel
theorem dX7_tell_18 : decode cX7_tell 18 = .ok (.iload_n 1, 1) := by decide +kernel
theorem dX7_tell_19 : decode cX7_tell 19 = .ok (.iconst 2, 1) := by decide +kernel
theorem dX7_tell_20 : decode cX7_tell 20 = .ok (.if_icmp .ne 7, 3) := by decide +kernel
theorem dX7_tell_23 : decode cX7_tell 23 = .ok (.iconst 1, 1) := by decide +kernel
theorem dX7_tell_24 : decode cX7_tell 24 = .ok (.goto 4, 3) := by decide +kernel
theorem dX7_tell_27 : decode cX7_tell 27 = .ok (.iconst 0, 1) := by decide +kernel
theorem dX7_tell_28 : decode cX7_tell 28 = .ok (.aload_n 0, 1) := by decide +kernel
theorem dX7_tell_29 : decode cX7_tell 29 = .ok (.getfield 54, 3) := by decide +kernel
theorem dX7_tell_32 : decode cX7_tell 32 = .ok (.iload_n 1, 1) := by decide +kernel
theorem dX7_tell_33 : decode cX7_tell 33 = .ok (.invokevirtual 132, 3) := by decide +kernel
theorem dX7_tell_36 : decode cX7_tell 36 = .ok (.invokevirtual 296, 3) := by decide +kernel
theorem dX7_tell_39 : decode cX7_tell 39 = .ok (.iload_n 1, 1) := by decide +kernel
theorem dX7_tell_40 : decode cX7_tell 40 = .ok (.iconst 2, 1) := by decide +kernel
theorem dX7_tell_41 : decode cX7_tell 41 = .ok (.if_icmp .ne 10, 3) := by decide +kernel
theorem dX7_tell_44 : decode cX7_tell 44 = .ok (.aload_n 0, 1) := by decide +kernel
theorem dX7_tell_45 : decode cX7_tell 45 = .ok (.getfield 54, 3) := by decide +kernel
theorem dX7_tell_48 : decode cX7_tell 48 = .ok (.invokevirtual 299, 3) := by decide +kernel
theorem dX7_tell_51 : decode cX7_tell 51 = .ok (.iconst 0, 1) := by decide +kernel
theorem dX7_tell_52 : decode cX7_tell 52 = .ok (.ireturn, 1) := by decide +kernel
def fX3_clearToMark_24 (S : St) : Option (Int32 × St) :=
  bnd (fX2_topmostMark_5 S) fun r1 S1 =>
  if r1 = (-1 : Int32) then
    some ((7 : Int32), S1)
  else
    bnd (fX2_count_5 S1) fun r3 S3 =>
    bnd (fX2_takeOff_5 (r3 - r1) S3) fun _ S4 =>
    some ((0 : Int32), S4)
def fX3_countToMark_24 (S : St) : Option (Int32 × St) :=
  bnd (fX2_topmostMark_5 S) fun r1 S1 =>
  if r1 = (-1 : Int32) then
    some ((7 : Int32), S1)
  else
    bnd (fX2_count_5 S1) fun r3 S3 =>
    bnd (fX2_put_5 (0 : Int32) ((r3 - (1 : Int32)) - r1) S3) fun r4 S4 =>
    if r4 = 0 then
      some ((2 : Int32), S4)
    else
      some ((0 : Int32), S4)
def fX3_more_24 (p1 : Int32) (p2 : Int32) (S : St) : Option (Int32 × St) :=
  bnd (fX2_put_5 p1 p2 S) fun r1 S1 =>
  if r1 = 0 then
    some ((2 : Int32), S1)
  else
    some ((0 : Int32), S1)
def fX3_pick_24 (p1 : Int32) (S : St) : Option (Int32 × St) :=
  if 0 ≤ p1 then
    bnd (fX2_count_5 S) fun r2 S2 =>
    if p1 < (r2 - (1 : Int32)) then
      bnd (fX2_kindUnder_5 (p1 + (1 : Int32)) S2) fun r4 S4 =>
      bnd (fX2_numberUnder_5 (p1 + (1 : Int32)) S4) fun r5 S5 =>
      bnd (fX2_replace_5 (1 : Int32) r4 r5 S5) fun _ S6 =>
      some ((0 : Int32), S6)
    else
      some ((1 : Int32), S2)
  else
    some ((4 : Int32), S)
def fX3_swap_24 (S : St) : Option (Int32 × St) :=
  bnd (fX2_kindUnder_5 (1 : Int32) S) fun r1 S1 =>
  bnd (fX2_numberUnder_5 (1 : Int32) S1) fun r2 S2 =>
  bnd (fX2_kindUnder_5 (0 : Int32) S2) fun r3 S3 =>
  bnd (fX2_numberUnder_5 (0 : Int32) S3) fun r4 S4 =>
  bnd (fX2_replace_5 (2 : Int32) r3 r4 S4) fun _ S5 =>
  bnd (fX2_put_5 r1 r2 S5) fun r6 S6 =>
  some ((0 : Int32), S6)
def fX3_reckoned_24 (p1 : Int32) (p2 : Int32) (S : St) : Option (Int32 × St) :=
  bnd (fX2_replace_5 (2 : Int32) p1 p2 S) fun _ S1 =>
  some ((0 : Int32), S1)
def fX3_topTwoAreTheSame_24_42 (S : St) : Option (Int32 × St) :=
    some ((0 : Int32), S)
def fX3_topTwoAreTheSame_24 (S : St) : Option (Int32 × St) :=
  bnd (fX2_kindUnder_5 (0 : Int32) S) fun r1 S1 =>
  bnd (fX2_kindUnder_5 (1 : Int32) S1) fun r2 S2 =>
  if r1 = r2 then
    bnd (fX2_numberUnder_5 (0 : Int32) S2) fun r4 S4 =>
    bnd (fX2_numberUnder_5 (1 : Int32) S4) fun r5 S5 =>
    if r4 = r5 then
      some ((1 : Int32), S5)
    else
      fX3_topTwoAreTheSame_24_42 S5
  else
    fX3_topTwoAreTheSame_24_42 S2
def fX3_divide_24 (p1 : Int32) (p2 : Int32) (S : St) : Option (Int32 × St) :=
  if p2 = 0 then
    some ((6 : Int32), S)
  else
    if ¬ p2 = 0 then
    bnd (fX2_replace_5 (2 : Int32) (0 : Int32) (p1 / p2) S) fun _ S3 =>
    some ((0 : Int32), S3)
    else none
def fX3_operate_24_184 (z1 : Int32) (z2 : Int32) (S : St) : Option (Int32 × St) :=
    bnd (fX3_reckoned_24 z1 z2 S) fun r1 S1 =>
    some (r1, S1)
def fX3_operate_24_214 (z1 : Int32) (z2 : Int32) (S : St) : Option (Int32 × St) :=
    bnd (fX3_reckoned_24 z1 z2 S) fun r1 S1 =>
    some (r1, S1)
def fX3_operate_24 (p1 : Int32) (S : St) : Option (Int32 × St) :=
  if p1 = 0 then
    bnd (fX2_numberUnder_5 (1 : Int32) S) fun r2 S2 =>
    bnd (fX2_numberUnder_5 (0 : Int32) S2) fun r3 S3 =>
    bnd (fX3_reckoned_24 (0 : Int32) (r2 + r3) S3) fun r4 S4 =>
    some (r4, S4)
  else
    if p1 = 1 then
      bnd (fX2_numberUnder_5 (1 : Int32) S) fun r6 S6 =>
      bnd (fX2_numberUnder_5 (0 : Int32) S6) fun r7 S7 =>
      bnd (fX3_reckoned_24 (0 : Int32) (r6 - r7) S7) fun r8 S8 =>
      some (r8, S8)
    else
      if p1 = 2 then
        bnd (fX2_numberUnder_5 (1 : Int32) S) fun r10 S10 =>
        bnd (fX2_numberUnder_5 (0 : Int32) S10) fun r11 S11 =>
        bnd (fX3_reckoned_24 (0 : Int32) (r10 * r11) S11) fun r12 S12 =>
        some (r12, S12)
      else
        if p1 = 3 then
          bnd (fX2_numberUnder_5 (1 : Int32) S) fun r14 S14 =>
          bnd (fX2_numberUnder_5 (0 : Int32) S14) fun r15 S15 =>
          bnd (fX3_divide_24 r14 r15 S15) fun r16 S16 =>
          some (r16, S16)
        else
          if p1 = 4 then
            bnd (fX3_topTwoAreTheSame_24 S) fun r18 S18 =>
            if r18 = 0 then
              fX3_operate_24_184 (1 : Int32) (0 : Int32) S18
            else
              fX3_operate_24_184 (1 : Int32) (1 : Int32) S18
          else
            if p1 = 5 then
              bnd (fX2_numberUnder_5 (1 : Int32) S) fun r21 S21 =>
              bnd (fX2_numberUnder_5 (0 : Int32) S21) fun r22 S22 =>
              if r22 ≤ r21 then
                fX3_operate_24_214 (1 : Int32) (0 : Int32) S22
              else
                fX3_operate_24_214 (1 : Int32) (1 : Int32) S22
            else
              if p1 = 6 then
                bnd (fX2_numberUnder_5 (0 : Int32) S) fun r25 S25 =>
                bnd (fX2_replace_5 (1 : Int32) (1 : Int32) ((1 : Int32) - r25) S25) fun _ S26 =>
                some ((0 : Int32), S26)
              else
                if p1 = 7 then
                  bnd (fX2_takeOff_5 (1 : Int32) S) fun _ S28 =>
                  some ((0 : Int32), S28)
                else
                  if p1 = 8 then
                    bnd (fX2_kindUnder_5 (0 : Int32) S) fun r30 S30 =>
                    bnd (fX2_numberUnder_5 (0 : Int32) S30) fun r31 S31 =>
                    bnd (fX3_more_24 r30 r31 S31) fun r32 S32 =>
                    some (r32, S32)
                  else
                    if p1 = 9 then
                      bnd (fX3_swap_24 S) fun r34 S34 =>
                      some (r34, S34)
                    else
                      if p1 = 10 then
                        bnd (fX2_numberUnder_5 (0 : Int32) S) fun r36 S36 =>
                        bnd (fX3_pick_24 r36 S36) fun r37 S37 =>
                        some (r37, S37)
                      else
                        if p1 = 11 then
                          bnd (fX2_count_5 S) fun r39 S39 =>
                          bnd (fX3_more_24 (0 : Int32) r39 S39) fun r40 S40 =>
                          some (r40, S40)
                        else
                          if p1 = 12 then
                            bnd (fX3_countToMark_24 S) fun r42 S42 =>
                            some (r42, S42)
                          else
                            if p1 = 13 then
                              bnd (fX3_clearToMark_24 S) fun r44 S44 =>
                              some (r44, S44)
                            else
                              if p1 = 14 then
                                bnd (fX3_define_24 S) fun r46 S46 =>
                                some (r46, S46)
                              else
                                if p1 = 15 then
                                  bnd (fX2_numberUnder_5 (0 : Int32) S) fun r48 S48 =>
                                  bnd (fX3_lookUp_24 r48 S48) fun r49 S49 =>
                                  some (r49, S49)
                                else
                                  some ((4 : Int32), S)
def fX5_has_20_13 (S : St) : Option (Int32 × St) :=
    some ((0 : Int32), S)
def fX5_has_20 (p1 : Int32) (S : St) : Option (Int32 × St) :=
  if p1 < 0 then
    fX5_has_20_13 S
  else
    if (5 : Int32) < p1 then
      fX5_has_20_13 S
    else
      some ((1 : Int32), S)
def fX2_count_21 (S : St) : Option (Int32 × St) :=
  some (S.1 21 2, S)
def fX5_told_20 (p1 : Int32) (S : St) : Option (Int32 × St) :=
  if p1 = 0 then
    some (S.1 20 1, S)
  else
    if p1 = 1 then
      some (S.1 20 2, S)
    else
      if p1 = 2 then
        if (S.1 20 5) = 0 then
          some ((0 : Int32), S)
        else
          some ((1 : Int32), S)
      else
        if p1 = 3 then
          some (S.1 20 3, S)
        else
          if p1 = 4 then
            bnd (fX2_count_21 S) fun r7 S7 =>
            some (r7, S7)
          else
            some (S.1 20 4, S)
def fX5_noMoreNew_20 (S : St) : Option (Int32 × St) :=
  stp (si S 20 5 (0 : Int32)) fun S1 =>
  some (0, S1)
def fX7_tell_0_51 (S : St) : Option (Int32 × St) :=
    some ((0 : Int32), S)
def fX7_tell_0_28 (q1 : Int32) (z1 : Int32) (z2 : Int32) (S : St) : Option (Int32 × St) :=
    bnd (fX5_told_20 q1 S) fun r1 S1 =>
    bnd (fX2_replace_5 z1 z2 r1 S1) fun _ S2 =>
    if q1 = (2 : Int32) then
      bnd (fX5_noMoreNew_20 S2) fun _ S4 =>
      fX7_tell_0_51 S4
    else
      fX7_tell_0_51 S2
def fX7_tell_0 (p1 : Int32) (S : St) : Option (Int32 × St) :=
  bnd (fX5_has_20 p1 S) fun r1 S1 =>
  if r1 = 0 then
    some ((4 : Int32), S1)
  else
    if p1 = (2 : Int32) then
      fX7_tell_0_28 p1 (1 : Int32) (1 : Int32) S1
    else
      fX7_tell_0_28 p1 (1 : Int32) (0 : Int32) S1
set_option maxRecDepth 100000 in
set_option maxHeartbeats 4000000 in
theorem mX3_clearToMark_24 (l : Launch) (D : va_G) (a : Nat → Nat) (cI cJ : ClassId) (tk : Nat) (tf : Nat → Int32) (S : St) (x : Int32 × St) (hf : fX3_clearToMark_24 S = some x) : Mi l D (wE a cI cJ) a 25 cI cJ tk tf yX3_clearToMark cX3_clearToMark 2 (some .int) { frames := 1, cells := 0, slots := 0, locals := 21 } [.ref (a 24)] S x := by
  refine opn_i (by decide +kernel) (Nat.le_of_ble_eq_true rfl) (fun p e s m below meth c C hr G ls hl => ?_)
  replace hl : lv_has ls 2 [(0, .ref (a 24))] := hl
  unfold fX3_clearToMark_24 at hf
  refine lv_aload_n C.1 C.2.1 dX3_clearToMark_0 rfl (lv_at hl 0 rfl) ?_
  refine gE_24_0 C G k_136 dX3_clearToMark_1 ?_
  obtain ⟨r1, S1, eS1, hf⟩ := bnd_e hf
  refine r_cali (As := []) (na := 0) C adE G (mX2_topmostMark_5 l D a cI cJ tk tf S _ eS1) k_529 k_530 k_531 k_62 k_532 (q0 := 5) rfl (ci := 2) rfl (by decide +kernel) ⟨Nat.le_of_ble_eq_true rfl, Nat.le_of_ble_eq_true rfl⟩ rfl rfl ⟨Nat.zero_le _, Nat.zero_le _⟩ rfl hl.1 rfl (Nat.le_of_ble_eq_true rfl) dX3_clearToMark_4 (fun H locs G => ?_)
  refine lv_istore_n (lv' := [(1, .int r1), (0, .ref (a 24))]) C.1 C.2.1 dX3_clearToMark_7 rfl hl (by decide) rfl (fun ls hl => ?_)
  refine lv_iload_n C.1 C.2.1 dX3_clearToMark_8 rfl (lv_at hl 0 rfl) ?_
  refine lv_iconst (v := (-1)) C.1 C.2.1 dX3_clearToMark_9 (by decide) ?_
  refine lv_icmp_ne (tgt := 16) C.1 C.2.1 dX3_clearToMark_10 (by decide) (fun c2 => ?_) (fun c2 => ?_)
  · replace hf := ifq c2 hf
    refine lv_aload_n C.1 C.2.1 dX3_clearToMark_16 rfl (lv_at hl 1 rfl) ?_
    refine gE_24_0 C G k_136 dX3_clearToMark_17 ?_
    refine lv_aload_n C.1 C.2.1 dX3_clearToMark_20 rfl (lv_at hl 1 rfl) ?_
    refine gE_24_0 C G k_136 dX3_clearToMark_21 ?_
    obtain ⟨r3, S3, eS3, hf⟩ := bnd_e hf
    refine r_cali (As := []) (na := 0) C adE G (mX2_count_5 l D a cI cJ tk tf S1 _ eS3) k_524 k_293 k_294 k_62 k_295 (q0 := 5) rfl (ci := 2) rfl (by decide +kernel) ⟨Nat.le_of_ble_eq_true rfl, Nat.le_of_ble_eq_true rfl⟩ rfl rfl ⟨Nat.zero_le _, Nat.zero_le _⟩ rfl hl.1 rfl (Nat.le_of_ble_eq_true rfl) dX3_clearToMark_24 (fun H locs G => ?_)
    refine lv_iload_n C.1 C.2.1 dX3_clearToMark_27 rfl (lv_at hl 0 rfl) ?_
    refine lv_isub C.1 C.2.1 dX3_clearToMark_28 ?_
    obtain ⟨r4, S4, eS4, hf⟩ := bnd_e hf
    refine r_calv (As := [.int (r3 - r1)]) (na := 1) C adE G (mX2_takeOff_5 l D a cI cJ tk tf (r3 - r1) S3 _ eS4) k_510 k_301 k_302 k_62 k_303 (q0 := 5) rfl (ci := 2) rfl (by decide +kernel) ⟨Nat.le_of_ble_eq_true rfl, Nat.le_of_ble_eq_true rfl⟩ rfl rfl ⟨Nat.zero_le _, Nat.zero_le _⟩ rfl hl.1 rfl (Nat.le_of_ble_eq_true rfl) dX3_clearToMark_29 (fun H locs G => ?_)
    refine lv_iconst (v := 0) C.1 C.2.1 dX3_clearToMark_32 (by decide) ?_
    exact r_iret C hr G hf dX3_clearToMark_33
  · replace hf := ifp c2 hf
    refine lv_bipush (v := 7) C.1 C.2.1 dX3_clearToMark_13 (by decide) ?_
    exact r_iret C hr G hf dX3_clearToMark_15
set_option maxRecDepth 100000 in
set_option maxHeartbeats 4000000 in
theorem mX3_countToMark_24 (l : Launch) (D : va_G) (a : Nat → Nat) (cI cJ : ClassId) (tk : Nat) (tf : Nat → Int32) (S : St) (x : Int32 × St) (hf : fX3_countToMark_24 S = some x) : Mi l D (wE a cI cJ) a 25 cI cJ tk tf yX3_countToMark cX3_countToMark 2 (some .int) { frames := 1, cells := 0, slots := 0, locals := 22 } [.ref (a 24)] S x := by
  refine opn_i (by decide +kernel) (Nat.le_of_ble_eq_true rfl) (fun p e s m below meth c C hr G ls hl => ?_)
  replace hl : lv_has ls 2 [(0, .ref (a 24))] := hl
  unfold fX3_countToMark_24 at hf
  refine lv_aload_n C.1 C.2.1 dX3_countToMark_0 rfl (lv_at hl 0 rfl) ?_
  refine gE_24_0 C G k_136 dX3_countToMark_1 ?_
  obtain ⟨r1, S1, eS1, hf⟩ := bnd_e hf
  refine r_cali (As := []) (na := 0) C adE G (mX2_topmostMark_5 l D a cI cJ tk tf S _ eS1) k_529 k_530 k_531 k_62 k_532 (q0 := 5) rfl (ci := 2) rfl (by decide +kernel) ⟨Nat.le_of_ble_eq_true rfl, Nat.le_of_ble_eq_true rfl⟩ rfl rfl ⟨Nat.zero_le _, Nat.zero_le _⟩ rfl hl.1 rfl (Nat.le_of_ble_eq_true rfl) dX3_countToMark_4 (fun H locs G => ?_)
  refine lv_istore_n (lv' := [(1, .int r1), (0, .ref (a 24))]) C.1 C.2.1 dX3_countToMark_7 rfl hl (by decide) rfl (fun ls hl => ?_)
  refine lv_iload_n C.1 C.2.1 dX3_countToMark_8 rfl (lv_at hl 0 rfl) ?_
  refine lv_iconst (v := (-1)) C.1 C.2.1 dX3_countToMark_9 (by decide) ?_
  refine lv_icmp_ne (tgt := 16) C.1 C.2.1 dX3_countToMark_10 (by decide) (fun c2 => ?_) (fun c2 => ?_)
  · replace hf := ifq c2 hf
    refine lv_aload_n C.1 C.2.1 dX3_countToMark_16 rfl (lv_at hl 1 rfl) ?_
    refine gE_24_0 C G k_136 dX3_countToMark_17 ?_
    refine lv_iconst (v := 0) C.1 C.2.1 dX3_countToMark_20 (by decide) ?_
    refine lv_aload_n C.1 C.2.1 dX3_countToMark_21 rfl (lv_at hl 1 rfl) ?_
    refine gE_24_0 C G k_136 dX3_countToMark_22 ?_
    obtain ⟨r3, S3, eS3, hf⟩ := bnd_e hf
    refine r_cali (As := []) (na := 0) C adE G (mX2_count_5 l D a cI cJ tk tf S1 _ eS3) k_524 k_293 k_294 k_62 k_295 (q0 := 5) rfl (ci := 2) rfl (by decide +kernel) ⟨Nat.le_of_ble_eq_true rfl, Nat.le_of_ble_eq_true rfl⟩ rfl rfl ⟨Nat.zero_le _, Nat.zero_le _⟩ rfl hl.1 rfl (Nat.le_of_ble_eq_true rfl) dX3_countToMark_25 (fun H locs G => ?_)
    refine lv_iconst (v := 1) C.1 C.2.1 dX3_countToMark_28 (by decide) ?_
    refine lv_isub C.1 C.2.1 dX3_countToMark_29 ?_
    refine lv_iload_n C.1 C.2.1 dX3_countToMark_30 rfl (lv_at hl 0 rfl) ?_
    refine lv_isub C.1 C.2.1 dX3_countToMark_31 ?_
    obtain ⟨r4, S4, eS4, hf⟩ := bnd_e hf
    refine r_cali (As := [.int (0 : Int32), .int ((r3 - (1 : Int32)) - r1)]) (na := 2) C adE G (mX2_put_5 l D a cI cJ tk tf (0 : Int32) ((r3 - (1 : Int32)) - r1) S3 _ eS4) k_515 k_289 k_290 k_62 k_291 (q0 := 5) rfl (ci := 2) rfl (by decide +kernel) ⟨Nat.le_of_ble_eq_true rfl, Nat.le_of_ble_eq_true rfl⟩ rfl rfl ⟨Nat.zero_le _, Nat.zero_le _⟩ rfl hl.1 rfl (Nat.le_of_ble_eq_true rfl) dX3_countToMark_32 (fun H locs G => ?_)
    refine lv_if_eq (tgt := 42) C.1 C.2.1 dX3_countToMark_35 (by decide) (fun c5 => ?_) (fun c5 => ?_)
    · replace hf := ifp c5 hf
      refine lv_iconst (v := 2) C.1 C.2.1 dX3_countToMark_42 (by decide) ?_
      exact r_iret C hr G hf dX3_countToMark_43
    · replace hf := ifq c5 hf
      refine lv_iconst (v := 0) C.1 C.2.1 dX3_countToMark_38 (by decide) ?_
      refine lv_goto (tgt := 43) C.1 C.2.1 dX3_countToMark_39 (by decide) ?_
      exact r_iret C hr G hf dX3_countToMark_43
  · replace hf := ifp c2 hf
    refine lv_bipush (v := 7) C.1 C.2.1 dX3_countToMark_13 (by decide) ?_
    exact r_iret C hr G hf dX3_countToMark_15
set_option maxRecDepth 100000 in
set_option maxHeartbeats 4000000 in
theorem mX3_more_24 (l : Launch) (D : va_G) (a : Nat → Nat) (cI cJ : ClassId) (tk : Nat) (tf : Nat → Int32) (p1 : Int32) (p2 : Int32) (S : St) (x : Int32 × St) (hf : fX3_more_24 p1 p2 S = some x) : Mi l D (wE a cI cJ) a 25 cI cJ tk tf yX3_more cX3_more 3 (some .int) { frames := 1, cells := 0, slots := 0, locals := 22 } [.ref (a 24), .int p1, .int p2] S x := by
  refine opn_i (by decide +kernel) (Nat.le_of_ble_eq_true rfl) (fun p e s m below meth c C hr G ls hl => ?_)
  replace hl : lv_has ls 3 [(0, .ref (a 24)), (1, .int p1), (2, .int p2)] := hl
  unfold fX3_more_24 at hf
  refine lv_aload_n C.1 C.2.1 dX3_more_0 rfl (lv_at hl 0 rfl) ?_
  refine gE_24_0 C G k_136 dX3_more_1 ?_
  refine lv_iload_n C.1 C.2.1 dX3_more_4 rfl (lv_at hl 1 rfl) ?_
  refine lv_iload_n C.1 C.2.1 dX3_more_5 rfl (lv_at hl 2 rfl) ?_
  obtain ⟨r1, S1, eS1, hf⟩ := bnd_e hf
  refine r_cali (As := [.int p1, .int p2]) (na := 2) C adE G (mX2_put_5 l D a cI cJ tk tf p1 p2 S _ eS1) k_515 k_289 k_290 k_62 k_291 (q0 := 5) rfl (ci := 2) rfl (by decide +kernel) ⟨Nat.le_of_ble_eq_true rfl, Nat.le_of_ble_eq_true rfl⟩ rfl rfl ⟨Nat.zero_le _, Nat.zero_le _⟩ rfl hl.1 rfl (Nat.le_of_ble_eq_true rfl) dX3_more_6 (fun H locs G => ?_)
  refine lv_if_eq (tgt := 16) C.1 C.2.1 dX3_more_9 (by decide) (fun c2 => ?_) (fun c2 => ?_)
  · replace hf := ifp c2 hf
    refine lv_iconst (v := 2) C.1 C.2.1 dX3_more_16 (by decide) ?_
    exact r_iret C hr G hf dX3_more_17
  · replace hf := ifq c2 hf
    refine lv_iconst (v := 0) C.1 C.2.1 dX3_more_12 (by decide) ?_
    refine lv_goto (tgt := 17) C.1 C.2.1 dX3_more_13 (by decide) ?_
    exact r_iret C hr G hf dX3_more_17
set_option maxRecDepth 100000 in
set_option maxHeartbeats 4000000 in
theorem mX3_pick_24 (l : Launch) (D : va_G) (a : Nat → Nat) (cI cJ : ClassId) (tk : Nat) (tf : Nat → Int32) (p1 : Int32) (S : St) (x : Int32 × St) (hf : fX3_pick_24 p1 S = some x) : Mi l D (wE a cI cJ) a 25 cI cJ tk tf yX3_pick cX3_pick 2 (some .int) { frames := 1, cells := 0, slots := 0, locals := 23 } [.ref (a 24), .int p1] S x := by
  refine opn_i (by decide +kernel) (Nat.le_of_ble_eq_true rfl) (fun p e s m below meth c C hr G ls hl => ?_)
  replace hl : lv_has ls 2 [(0, .ref (a 24)), (1, .int p1)] := hl
  unfold fX3_pick_24 at hf
  refine lv_iload_n C.1 C.2.1 dX3_pick_0 rfl (lv_at hl 1 rfl) ?_
  refine lv_if_ge (tgt := 6) C.1 C.2.1 dX3_pick_1 (by decide) (fun c1 => ?_) (fun c1 => ?_)
  · replace hf := ifp c1 hf
    refine lv_iload_n C.1 C.2.1 dX3_pick_6 rfl (lv_at hl 1 rfl) ?_
    refine lv_aload_n C.1 C.2.1 dX3_pick_7 rfl (lv_at hl 0 rfl) ?_
    refine gE_24_0 C G k_136 dX3_pick_8 ?_
    obtain ⟨r2, S2, eS2, hf⟩ := bnd_e hf
    refine r_cali (As := []) (na := 0) C adE G (mX2_count_5 l D a cI cJ tk tf S _ eS2) k_524 k_293 k_294 k_62 k_295 (q0 := 5) rfl (ci := 2) rfl (by decide +kernel) ⟨Nat.le_of_ble_eq_true rfl, Nat.le_of_ble_eq_true rfl⟩ rfl rfl ⟨Nat.zero_le _, Nat.zero_le _⟩ rfl hl.1 rfl (Nat.le_of_ble_eq_true rfl) dX3_pick_11 (fun H locs G => ?_)
    refine lv_iconst (v := 1) C.1 C.2.1 dX3_pick_14 (by decide) ?_
    refine lv_isub C.1 C.2.1 dX3_pick_15 ?_
    refine lv_icmp_lt (tgt := 21) C.1 C.2.1 dX3_pick_16 (by decide) (fun c3 => ?_) (fun c3 => ?_)
    · replace hf := ifp c3 hf
      refine lv_aload_n C.1 C.2.1 dX3_pick_21 rfl (lv_at hl 0 rfl) ?_
      refine gE_24_0 C G k_136 dX3_pick_22 ?_
      refine lv_iconst (v := 1) C.1 C.2.1 dX3_pick_25 (by decide) ?_
      refine lv_aload_n C.1 C.2.1 dX3_pick_26 rfl (lv_at hl 0 rfl) ?_
      refine gE_24_0 C G k_136 dX3_pick_27 ?_
      refine lv_iload_n C.1 C.2.1 dX3_pick_30 rfl (lv_at hl 1 rfl) ?_
      refine lv_iconst (v := 1) C.1 C.2.1 dX3_pick_31 (by decide) ?_
      refine lv_iadd C.1 C.2.1 dX3_pick_32 ?_
      obtain ⟨r4, S4, eS4, hf⟩ := bnd_e hf
      refine r_cali (As := [.int (p1 + (1 : Int32))]) (na := 1) C adE G (mX2_kindUnder_5 l D a cI cJ tk tf (p1 + (1 : Int32)) S2 _ eS4) k_509 k_371 k_372 k_62 k_373 (q0 := 5) rfl (ci := 2) rfl (by decide +kernel) ⟨Nat.le_of_ble_eq_true rfl, Nat.le_of_ble_eq_true rfl⟩ rfl rfl ⟨Nat.zero_le _, Nat.zero_le _⟩ rfl hl.1 rfl (Nat.le_of_ble_eq_true rfl) dX3_pick_33 (fun H locs G => ?_)
      refine lv_aload_n C.1 C.2.1 dX3_pick_36 rfl (lv_at hl 0 rfl) ?_
      refine gE_24_0 C G k_136 dX3_pick_37 ?_
      refine lv_iload_n C.1 C.2.1 dX3_pick_40 rfl (lv_at hl 1 rfl) ?_
      refine lv_iconst (v := 1) C.1 C.2.1 dX3_pick_41 (by decide) ?_
      refine lv_iadd C.1 C.2.1 dX3_pick_42 ?_
      obtain ⟨r5, S5, eS5, hf⟩ := bnd_e hf
      refine r_cali (As := [.int (p1 + (1 : Int32))]) (na := 1) C adE G (mX2_numberUnder_5 l D a cI cJ tk tf (p1 + (1 : Int32)) S4 _ eS5) k_496 k_379 k_380 k_62 k_381 (q0 := 5) rfl (ci := 2) rfl (by decide +kernel) ⟨Nat.le_of_ble_eq_true rfl, Nat.le_of_ble_eq_true rfl⟩ rfl rfl ⟨Nat.zero_le _, Nat.zero_le _⟩ rfl hl.1 rfl (Nat.le_of_ble_eq_true rfl) dX3_pick_43 (fun H locs G => ?_)
      obtain ⟨r6, S6, eS6, hf⟩ := bnd_e hf
      refine r_calv (As := [.int (1 : Int32), .int r4, .int r5]) (na := 3) C adE G (mX2_replace_5 l D a cI cJ tk tf (1 : Int32) r4 r5 S5 _ eS6) k_405 k_406 k_407 k_62 k_408 (q0 := 5) rfl (ci := 2) rfl (by decide +kernel) ⟨Nat.le_of_ble_eq_true rfl, Nat.le_of_ble_eq_true rfl⟩ rfl rfl ⟨Nat.zero_le _, Nat.zero_le _⟩ rfl hl.1 rfl (Nat.le_of_ble_eq_true rfl) dX3_pick_46 (fun H locs G => ?_)
      refine lv_iconst (v := 0) C.1 C.2.1 dX3_pick_49 (by decide) ?_
      exact r_iret C hr G hf dX3_pick_50
    · replace hf := ifq c3 hf
      refine lv_iconst (v := 1) C.1 C.2.1 dX3_pick_19 (by decide) ?_
      exact r_iret C hr G hf dX3_pick_20
  · replace hf := ifq c1 hf
    refine lv_iconst (v := 4) C.1 C.2.1 dX3_pick_4 (by decide) ?_
    exact r_iret C hr G hf dX3_pick_5
set_option maxRecDepth 100000 in
set_option maxHeartbeats 4000000 in
theorem mX3_swap_24 (l : Launch) (D : va_G) (a : Nat → Nat) (cI cJ : ClassId) (tk : Nat) (tf : Nat → Int32) (S : St) (x : Int32 × St) (hf : fX3_swap_24 S = some x) : Mi l D (wE a cI cJ) a 25 cI cJ tk tf yX3_swap cX3_swap 5 (some .int) { frames := 1, cells := 0, slots := 0, locals := 23 } [.ref (a 24)] S x := by
  refine opn_i (by decide +kernel) (Nat.le_of_ble_eq_true rfl) (fun p e s m below meth c C hr G ls hl => ?_)
  replace hl : lv_has ls 5 [(0, .ref (a 24))] := hl
  unfold fX3_swap_24 at hf
  refine lv_aload_n C.1 C.2.1 dX3_swap_0 rfl (lv_at hl 0 rfl) ?_
  refine gE_24_0 C G k_136 dX3_swap_1 ?_
  refine lv_iconst (v := 1) C.1 C.2.1 dX3_swap_4 (by decide) ?_
  obtain ⟨r1, S1, eS1, hf⟩ := bnd_e hf
  refine r_cali (As := [.int (1 : Int32)]) (na := 1) C adE G (mX2_kindUnder_5 l D a cI cJ tk tf (1 : Int32) S _ eS1) k_509 k_371 k_372 k_62 k_373 (q0 := 5) rfl (ci := 2) rfl (by decide +kernel) ⟨Nat.le_of_ble_eq_true rfl, Nat.le_of_ble_eq_true rfl⟩ rfl rfl ⟨Nat.zero_le _, Nat.zero_le _⟩ rfl hl.1 rfl (Nat.le_of_ble_eq_true rfl) dX3_swap_5 (fun H locs G => ?_)
  refine lv_istore_n (lv' := [(1, .int r1), (0, .ref (a 24))]) C.1 C.2.1 dX3_swap_8 rfl hl (by decide) rfl (fun ls hl => ?_)
  refine lv_aload_n C.1 C.2.1 dX3_swap_9 rfl (lv_at hl 1 rfl) ?_
  refine gE_24_0 C G k_136 dX3_swap_10 ?_
  refine lv_iconst (v := 1) C.1 C.2.1 dX3_swap_13 (by decide) ?_
  obtain ⟨r2, S2, eS2, hf⟩ := bnd_e hf
  refine r_cali (As := [.int (1 : Int32)]) (na := 1) C adE G (mX2_numberUnder_5 l D a cI cJ tk tf (1 : Int32) S1 _ eS2) k_496 k_379 k_380 k_62 k_381 (q0 := 5) rfl (ci := 2) rfl (by decide +kernel) ⟨Nat.le_of_ble_eq_true rfl, Nat.le_of_ble_eq_true rfl⟩ rfl rfl ⟨Nat.zero_le _, Nat.zero_le _⟩ rfl hl.1 rfl (Nat.le_of_ble_eq_true rfl) dX3_swap_14 (fun H locs G => ?_)
  refine lv_istore_n (lv' := [(2, .int r2), (1, .int r1), (0, .ref (a 24))]) C.1 C.2.1 dX3_swap_17 rfl hl (by decide) rfl (fun ls hl => ?_)
  refine lv_aload_n C.1 C.2.1 dX3_swap_18 rfl (lv_at hl 2 rfl) ?_
  refine gE_24_0 C G k_136 dX3_swap_19 ?_
  refine lv_iconst (v := 0) C.1 C.2.1 dX3_swap_22 (by decide) ?_
  obtain ⟨r3, S3, eS3, hf⟩ := bnd_e hf
  refine r_cali (As := [.int (0 : Int32)]) (na := 1) C adE G (mX2_kindUnder_5 l D a cI cJ tk tf (0 : Int32) S2 _ eS3) k_509 k_371 k_372 k_62 k_373 (q0 := 5) rfl (ci := 2) rfl (by decide +kernel) ⟨Nat.le_of_ble_eq_true rfl, Nat.le_of_ble_eq_true rfl⟩ rfl rfl ⟨Nat.zero_le _, Nat.zero_le _⟩ rfl hl.1 rfl (Nat.le_of_ble_eq_true rfl) dX3_swap_23 (fun H locs G => ?_)
  refine lv_istore_n (lv' := [(3, .int r3), (2, .int r2), (1, .int r1), (0, .ref (a 24))]) C.1 C.2.1 dX3_swap_26 rfl hl (by decide) rfl (fun ls hl => ?_)
  refine lv_aload_n C.1 C.2.1 dX3_swap_27 rfl (lv_at hl 3 rfl) ?_
  refine gE_24_0 C G k_136 dX3_swap_28 ?_
  refine lv_iconst (v := 0) C.1 C.2.1 dX3_swap_31 (by decide) ?_
  obtain ⟨r4, S4, eS4, hf⟩ := bnd_e hf
  refine r_cali (As := [.int (0 : Int32)]) (na := 1) C adE G (mX2_numberUnder_5 l D a cI cJ tk tf (0 : Int32) S3 _ eS4) k_496 k_379 k_380 k_62 k_381 (q0 := 5) rfl (ci := 2) rfl (by decide +kernel) ⟨Nat.le_of_ble_eq_true rfl, Nat.le_of_ble_eq_true rfl⟩ rfl rfl ⟨Nat.zero_le _, Nat.zero_le _⟩ rfl hl.1 rfl (Nat.le_of_ble_eq_true rfl) dX3_swap_32 (fun H locs G => ?_)
  refine lv_istore (lv' := [(4, .int r4), (3, .int r3), (2, .int r2), (1, .int r1), (0, .ref (a 24))]) C.1 C.2.1 dX3_swap_35 hl (by decide) rfl (fun ls hl => ?_)
  refine lv_aload_n C.1 C.2.1 dX3_swap_37 rfl (lv_at hl 4 rfl) ?_
  refine gE_24_0 C G k_136 dX3_swap_38 ?_
  refine lv_iconst (v := 2) C.1 C.2.1 dX3_swap_41 (by decide) ?_
  refine lv_iload_n C.1 C.2.1 dX3_swap_42 rfl (lv_at hl 1 rfl) ?_
  refine lv_iload C.1 C.2.1 dX3_swap_43 (lv_at hl 0 rfl) ?_
  obtain ⟨r5, S5, eS5, hf⟩ := bnd_e hf
  refine r_calv (As := [.int (2 : Int32), .int r3, .int r4]) (na := 3) C adE G (mX2_replace_5 l D a cI cJ tk tf (2 : Int32) r3 r4 S4 _ eS5) k_405 k_406 k_407 k_62 k_408 (q0 := 5) rfl (ci := 2) rfl (by decide +kernel) ⟨Nat.le_of_ble_eq_true rfl, Nat.le_of_ble_eq_true rfl⟩ rfl rfl ⟨Nat.zero_le _, Nat.zero_le _⟩ rfl hl.1 rfl (Nat.le_of_ble_eq_true rfl) dX3_swap_45 (fun H locs G => ?_)
  refine lv_aload_n C.1 C.2.1 dX3_swap_48 rfl (lv_at hl 4 rfl) ?_
  refine gE_24_0 C G k_136 dX3_swap_49 ?_
  refine lv_iload_n C.1 C.2.1 dX3_swap_52 rfl (lv_at hl 3 rfl) ?_
  refine lv_iload_n C.1 C.2.1 dX3_swap_53 rfl (lv_at hl 2 rfl) ?_
  obtain ⟨r6, S6, eS6, hf⟩ := bnd_e hf
  refine r_cali (As := [.int r1, .int r2]) (na := 2) C adE G (mX2_put_5 l D a cI cJ tk tf r1 r2 S5 _ eS6) k_515 k_289 k_290 k_62 k_291 (q0 := 5) rfl (ci := 2) rfl (by decide +kernel) ⟨Nat.le_of_ble_eq_true rfl, Nat.le_of_ble_eq_true rfl⟩ rfl rfl ⟨Nat.zero_le _, Nat.zero_le _⟩ rfl hl.1 rfl (Nat.le_of_ble_eq_true rfl) dX3_swap_54 (fun H locs G => ?_)
  refine lv_pop C.1 C.2.1 dX3_swap_57 rfl ?_
  refine lv_iconst (v := 0) C.1 C.2.1 dX3_swap_58 (by decide) ?_
  exact r_iret C hr G hf dX3_swap_59
set_option maxRecDepth 100000 in
set_option maxHeartbeats 4000000 in
theorem mX3_reckoned_24 (l : Launch) (D : va_G) (a : Nat → Nat) (cI cJ : ClassId) (tk : Nat) (tf : Nat → Int32) (p1 : Int32) (p2 : Int32) (S : St) (x : Int32 × St) (hf : fX3_reckoned_24 p1 p2 S = some x) : Mi l D (wE a cI cJ) a 25 cI cJ tk tf yX3_reckoned cX3_reckoned 3 (some .int) { frames := 1, cells := 0, slots := 0, locals := 23 } [.ref (a 24), .int p1, .int p2] S x := by
  refine opn_i (by decide +kernel) (Nat.le_of_ble_eq_true rfl) (fun p e s m below meth c C hr G ls hl => ?_)
  replace hl : lv_has ls 3 [(0, .ref (a 24)), (1, .int p1), (2, .int p2)] := hl
  unfold fX3_reckoned_24 at hf
  refine lv_aload_n C.1 C.2.1 dX3_reckoned_0 rfl (lv_at hl 0 rfl) ?_
  refine gE_24_0 C G k_136 dX3_reckoned_1 ?_
  refine lv_iconst (v := 2) C.1 C.2.1 dX3_reckoned_4 (by decide) ?_
  refine lv_iload_n C.1 C.2.1 dX3_reckoned_5 rfl (lv_at hl 1 rfl) ?_
  refine lv_iload_n C.1 C.2.1 dX3_reckoned_6 rfl (lv_at hl 2 rfl) ?_
  obtain ⟨r1, S1, eS1, hf⟩ := bnd_e hf
  refine r_calv (As := [.int (2 : Int32), .int p1, .int p2]) (na := 3) C adE G (mX2_replace_5 l D a cI cJ tk tf (2 : Int32) p1 p2 S _ eS1) k_405 k_406 k_407 k_62 k_408 (q0 := 5) rfl (ci := 2) rfl (by decide +kernel) ⟨Nat.le_of_ble_eq_true rfl, Nat.le_of_ble_eq_true rfl⟩ rfl rfl ⟨Nat.zero_le _, Nat.zero_le _⟩ rfl hl.1 rfl (Nat.le_of_ble_eq_true rfl) dX3_reckoned_7 (fun H locs G => ?_)
  refine lv_iconst (v := 0) C.1 C.2.1 dX3_reckoned_10 (by decide) ?_
  exact r_iret C hr G hf dX3_reckoned_11
set_option maxRecDepth 100000 in
set_option maxHeartbeats 4000000 in
theorem rX3_topTwoAreTheSame_24_42 {p : Program} {l : Launch} {e : Env} {s : State} {m : MethodId} {args : Array Value} {below : List Frame} {meth : Method} {c : Code} {D : va_G} {a : Nat → Nat} {cI cJ : ClassId} {tk : Nat} {tf : Nat → Int32} (C : Cx p s m args meth c RX3 cX3_topTwoAreTheSame 1 D cI cJ tk tf (AR a 25 s.heap.size)) (hr : meth.sig.returnType = (some .boolean)) : ∀ (S : St) (x : Int32 × St) (H : Heap) (locs : List Loc) (ls : Array Slot), fX3_topTwoAreTheSame_24_42 S = some x → Wd D (wE a cI cJ) (AR a 25 s.heap.size) s S H locs → lv_has ls 1 [] → W p l e { frames := 1, cells := 0, slots := 0, locals := 21 } s m args below meth c H locs 0 0 (MQ below (Qi D (wE a cI cJ) (AR a 25 s.heap.size) x) args s 0 0 (AR a 25 s.heap.size)) (F0 m 42 ls []) := by
  intro S x H locs ls hf G hl
  unfold fX3_topTwoAreTheSame_24_42 at hf
  refine lv_iconst (v := 0) C.1 C.2.1 dX3_topTwoAreTheSame_42 (by decide) ?_
  exact r_zret C hr (Or.inl rfl) G hf dX3_topTwoAreTheSame_43
set_option maxRecDepth 100000 in
set_option maxHeartbeats 4000000 in
theorem mX3_topTwoAreTheSame_24 (l : Launch) (D : va_G) (a : Nat → Nat) (cI cJ : ClassId) (tk : Nat) (tf : Nat → Int32) (S : St) (x : Int32 × St) (hf : fX3_topTwoAreTheSame_24 S = some x) : Mi l D (wE a cI cJ) a 25 cI cJ tk tf yX3_topTwoAreTheSame cX3_topTwoAreTheSame 1 (some .boolean) { frames := 1, cells := 0, slots := 0, locals := 21 } [.ref (a 24)] S x := by
  refine opn_i (by decide +kernel) (Nat.le_of_ble_eq_true rfl) (fun p e s m below meth c C hr G ls hl => ?_)
  replace hl : lv_has ls 1 [(0, .ref (a 24))] := hl
  unfold fX3_topTwoAreTheSame_24 at hf
  refine lv_aload_n C.1 C.2.1 dX3_topTwoAreTheSame_0 rfl (lv_at hl 0 rfl) ?_
  refine gE_24_0 C G k_136 dX3_topTwoAreTheSame_1 ?_
  refine lv_iconst (v := 0) C.1 C.2.1 dX3_topTwoAreTheSame_4 (by decide) ?_
  obtain ⟨r1, S1, eS1, hf⟩ := bnd_e hf
  refine r_cali (As := [.int (0 : Int32)]) (na := 1) C adE G (mX2_kindUnder_5 l D a cI cJ tk tf (0 : Int32) S _ eS1) k_509 k_371 k_372 k_62 k_373 (q0 := 5) rfl (ci := 2) rfl (by decide +kernel) ⟨Nat.le_of_ble_eq_true rfl, Nat.le_of_ble_eq_true rfl⟩ rfl rfl ⟨Nat.zero_le _, Nat.zero_le _⟩ rfl hl.1 rfl (Nat.le_of_ble_eq_true rfl) dX3_topTwoAreTheSame_5 (fun H locs G => ?_)
  refine lv_aload_n C.1 C.2.1 dX3_topTwoAreTheSame_8 rfl (lv_at hl 0 rfl) ?_
  refine gE_24_0 C G k_136 dX3_topTwoAreTheSame_9 ?_
  refine lv_iconst (v := 1) C.1 C.2.1 dX3_topTwoAreTheSame_12 (by decide) ?_
  obtain ⟨r2, S2, eS2, hf⟩ := bnd_e hf
  refine r_cali (As := [.int (1 : Int32)]) (na := 1) C adE G (mX2_kindUnder_5 l D a cI cJ tk tf (1 : Int32) S1 _ eS2) k_509 k_371 k_372 k_62 k_373 (q0 := 5) rfl (ci := 2) rfl (by decide +kernel) ⟨Nat.le_of_ble_eq_true rfl, Nat.le_of_ble_eq_true rfl⟩ rfl rfl ⟨Nat.zero_le _, Nat.zero_le _⟩ rfl hl.1 rfl (Nat.le_of_ble_eq_true rfl) dX3_topTwoAreTheSame_13 (fun H locs G => ?_)
  refine lv_icmp_ne (tgt := 42) C.1 C.2.1 dX3_topTwoAreTheSame_16 (by decide) (fun c3 => ?_) (fun c3 => ?_)
  · replace hf := ifq c3 hf
    exact rX3_topTwoAreTheSame_24_42 C hr S2 _ _ _ _ hf G (lv_sub hl [] rfl)
  · replace hf := ifp c3 hf
    refine lv_aload_n C.1 C.2.1 dX3_topTwoAreTheSame_19 rfl (lv_at hl 0 rfl) ?_
    refine gE_24_0 C G k_136 dX3_topTwoAreTheSame_20 ?_
    refine lv_iconst (v := 0) C.1 C.2.1 dX3_topTwoAreTheSame_23 (by decide) ?_
    obtain ⟨r4, S4, eS4, hf⟩ := bnd_e hf
    refine r_cali (As := [.int (0 : Int32)]) (na := 1) C adE G (mX2_numberUnder_5 l D a cI cJ tk tf (0 : Int32) S2 _ eS4) k_496 k_379 k_380 k_62 k_381 (q0 := 5) rfl (ci := 2) rfl (by decide +kernel) ⟨Nat.le_of_ble_eq_true rfl, Nat.le_of_ble_eq_true rfl⟩ rfl rfl ⟨Nat.zero_le _, Nat.zero_le _⟩ rfl hl.1 rfl (Nat.le_of_ble_eq_true rfl) dX3_topTwoAreTheSame_24 (fun H locs G => ?_)
    refine lv_aload_n C.1 C.2.1 dX3_topTwoAreTheSame_27 rfl (lv_at hl 0 rfl) ?_
    refine gE_24_0 C G k_136 dX3_topTwoAreTheSame_28 ?_
    refine lv_iconst (v := 1) C.1 C.2.1 dX3_topTwoAreTheSame_31 (by decide) ?_
    obtain ⟨r5, S5, eS5, hf⟩ := bnd_e hf
    refine r_cali (As := [.int (1 : Int32)]) (na := 1) C adE G (mX2_numberUnder_5 l D a cI cJ tk tf (1 : Int32) S4 _ eS5) k_496 k_379 k_380 k_62 k_381 (q0 := 5) rfl (ci := 2) rfl (by decide +kernel) ⟨Nat.le_of_ble_eq_true rfl, Nat.le_of_ble_eq_true rfl⟩ rfl rfl ⟨Nat.zero_le _, Nat.zero_le _⟩ rfl hl.1 rfl (Nat.le_of_ble_eq_true rfl) dX3_topTwoAreTheSame_32 (fun H locs G => ?_)
    refine lv_icmp_ne (tgt := 42) C.1 C.2.1 dX3_topTwoAreTheSame_35 (by decide) (fun c6 => ?_) (fun c6 => ?_)
    · replace hf := ifq c6 hf
      exact rX3_topTwoAreTheSame_24_42 C hr S5 _ _ _ _ hf G (lv_sub hl [] rfl)
    · replace hf := ifp c6 hf
      refine lv_iconst (v := 1) C.1 C.2.1 dX3_topTwoAreTheSame_38 (by decide) ?_
      refine lv_goto (tgt := 43) C.1 C.2.1 dX3_topTwoAreTheSame_39 (by decide) ?_
      exact r_zret C hr (Or.inr rfl) G hf dX3_topTwoAreTheSame_43
set_option maxRecDepth 100000 in
set_option maxHeartbeats 4000000 in
theorem mX3_divide_24 (l : Launch) (D : va_G) (a : Nat → Nat) (cI cJ : ClassId) (tk : Nat) (tf : Nat → Int32) (p1 : Int32) (p2 : Int32) (S : St) (x : Int32 × St) (hf : fX3_divide_24 p1 p2 S = some x) : Mi l D (wE a cI cJ) a 25 cI cJ tk tf yX3_divide cX3_divide 3 (some .int) { frames := 1, cells := 0, slots := 0, locals := 23 } [.ref (a 24), .int p1, .int p2] S x := by
  refine opn_i (by decide +kernel) (Nat.le_of_ble_eq_true rfl) (fun p e s m below meth c C hr G ls hl => ?_)
  replace hl : lv_has ls 3 [(0, .ref (a 24)), (1, .int p1), (2, .int p2)] := hl
  unfold fX3_divide_24 at hf
  refine lv_iload_n C.1 C.2.1 dX3_divide_0 rfl (lv_at hl 2 rfl) ?_
  refine lv_if_ne (tgt := 7) C.1 C.2.1 dX3_divide_1 (by decide) (fun c1 => ?_) (fun c1 => ?_)
  · replace hf := ifq c1 hf
    refine lv_aload_n C.1 C.2.1 dX3_divide_7 rfl (lv_at hl 0 rfl) ?_
    refine gE_24_0 C G k_136 dX3_divide_8 ?_
    refine lv_iconst (v := 2) C.1 C.2.1 dX3_divide_11 (by decide) ?_
    refine lv_iconst (v := 0) C.1 C.2.1 dX3_divide_12 (by decide) ?_
    refine lv_iload_n C.1 C.2.1 dX3_divide_13 rfl (lv_at hl 1 rfl) ?_
    refine lv_iload_n C.1 C.2.1 dX3_divide_14 rfl (lv_at hl 2 rfl) ?_
    obtain ⟨hi2, hf⟩ := ifn hf
    refine lv_idiv C.1 C.2.1 dX3_divide_15 hi2 ?_
    obtain ⟨r3, S3, eS3, hf⟩ := bnd_e hf
    refine r_calv (As := [.int (2 : Int32), .int (0 : Int32), .int (p1 / p2)]) (na := 3) C adE G (mX2_replace_5 l D a cI cJ tk tf (2 : Int32) (0 : Int32) (p1 / p2) S _ eS3) k_405 k_406 k_407 k_62 k_408 (q0 := 5) rfl (ci := 2) rfl (by decide +kernel) ⟨Nat.le_of_ble_eq_true rfl, Nat.le_of_ble_eq_true rfl⟩ rfl rfl ⟨Nat.zero_le _, Nat.zero_le _⟩ rfl hl.1 rfl (Nat.le_of_ble_eq_true rfl) dX3_divide_16 (fun H locs G => ?_)
    refine lv_iconst (v := 0) C.1 C.2.1 dX3_divide_19 (by decide) ?_
    exact r_iret C hr G hf dX3_divide_20
  · replace hf := ifp c1 hf
    refine lv_bipush (v := 6) C.1 C.2.1 dX3_divide_4 (by decide) ?_
    exact r_iret C hr G hf dX3_divide_6
set_option maxRecDepth 100000 in
set_option maxHeartbeats 4000000 in
theorem rX3_operate_24_184 {p : Program} {l : Launch} {e : Env} {s : State} {m : MethodId} {args : Array Value} {below : List Frame} {meth : Method} {c : Code} {D : va_G} {a : Nat → Nat} {cI cJ : ClassId} {tk : Nat} {tf : Nat → Int32} (C : Cx p s m args meth c RX3 cX3_operate 2 D cI cJ tk tf (AR a 25 s.heap.size)) (hr : meth.sig.returnType = (some .int)) : ∀ (z1 : Int32) (z2 : Int32) (S : St) (x : Int32 × St) (H : Heap) (locs : List Loc) (ls : Array Slot), fX3_operate_24_184 z1 z2 S = some x → Wd D (wE a cI cJ) (AR a 25 s.heap.size) s S H locs → lv_has ls 2 [] → W p l e { frames := 2, cells := 0, slots := 0, locals := 47 } s m args below meth c H locs 0 0 (MQ below (Qi D (wE a cI cJ) (AR a 25 s.heap.size) x) args s 0 0 (AR a 25 s.heap.size)) (F0 m 184 ls [.int z2, .int z1, .ref (a 24)]) := by
  intro z1 z2 S x H locs ls hf G hl
  unfold fX3_operate_24_184 at hf
  obtain ⟨r1, S1, eS1, hf⟩ := bnd_e hf
  refine r_cali (As := [.int z1, .int z2]) (na := 2) C adE G (mX3_reckoned_24 l D a cI cJ tk tf z1 z2 S _ eS1) k_497 k_499 k_17 k_61 k_500 (q0 := 24) rfl (ci := 3) rfl (by decide +kernel) ⟨Nat.le_of_ble_eq_true rfl, Nat.le_of_ble_eq_true rfl⟩ rfl rfl ⟨Nat.zero_le _, Nat.zero_le _⟩ rfl hl.1 rfl (Nat.le_of_ble_eq_true rfl) dX3_operate_184 (fun H locs G => ?_)
  exact r_iret C hr G hf dX3_operate_187
set_option maxRecDepth 100000 in
set_option maxHeartbeats 4000000 in
theorem rX3_operate_24_214 {p : Program} {l : Launch} {e : Env} {s : State} {m : MethodId} {args : Array Value} {below : List Frame} {meth : Method} {c : Code} {D : va_G} {a : Nat → Nat} {cI cJ : ClassId} {tk : Nat} {tf : Nat → Int32} (C : Cx p s m args meth c RX3 cX3_operate 2 D cI cJ tk tf (AR a 25 s.heap.size)) (hr : meth.sig.returnType = (some .int)) : ∀ (z1 : Int32) (z2 : Int32) (S : St) (x : Int32 × St) (H : Heap) (locs : List Loc) (ls : Array Slot), fX3_operate_24_214 z1 z2 S = some x → Wd D (wE a cI cJ) (AR a 25 s.heap.size) s S H locs → lv_has ls 2 [] → W p l e { frames := 2, cells := 0, slots := 0, locals := 47 } s m args below meth c H locs 0 0 (MQ below (Qi D (wE a cI cJ) (AR a 25 s.heap.size) x) args s 0 0 (AR a 25 s.heap.size)) (F0 m 214 ls [.int z2, .int z1, .ref (a 24)]) := by
  intro z1 z2 S x H locs ls hf G hl
  unfold fX3_operate_24_214 at hf
  obtain ⟨r1, S1, eS1, hf⟩ := bnd_e hf
  refine r_cali (As := [.int z1, .int z2]) (na := 2) C adE G (mX3_reckoned_24 l D a cI cJ tk tf z1 z2 S _ eS1) k_497 k_499 k_17 k_61 k_500 (q0 := 24) rfl (ci := 3) rfl (by decide +kernel) ⟨Nat.le_of_ble_eq_true rfl, Nat.le_of_ble_eq_true rfl⟩ rfl rfl ⟨Nat.zero_le _, Nat.zero_le _⟩ rfl hl.1 rfl (Nat.le_of_ble_eq_true rfl) dX3_operate_214 (fun H locs G => ?_)
  exact r_iret C hr G hf dX3_operate_217
set_option maxRecDepth 100000 in
set_option maxHeartbeats 4000000 in
theorem mX3_operate_24 (l : Launch) (D : va_G) (a : Nat → Nat) (cI cJ : ClassId) (tk : Nat) (tf : Nat → Int32) (p1 : Int32) (S : St) (x : Int32 × St) (hf : fX3_operate_24 p1 S = some x) : Mi l D (wE a cI cJ) a 25 cI cJ tk tf yX3_operate cX3_operate 2 (some .int) { frames := 2, cells := 0, slots := 0, locals := 47 } [.ref (a 24), .int p1] S x := by
  refine opn_i (by decide +kernel) (Nat.le_of_ble_eq_true rfl) (fun p e s m below meth c C hr G ls hl => ?_)
  replace hl : lv_has ls 2 [(0, .ref (a 24)), (1, .int p1)] := hl
  unfold fX3_operate_24 at hf
  refine lv_iload_n C.1 C.2.1 dX3_operate_0 rfl (lv_at hl 1 rfl) ?_
  by_cases c1 : p1 = (0 : Int32)
  · replace hf := ifp c1 hf
    refine lv_tableIn (tgt := 80) C.1 C.2.1 dX3_operate_1 (by rw [c1]; decide) (by rw [c1]; decide) (by rw [c1]; rfl) (by decide) ?_
    refine lv_aload_n C.1 C.2.1 dX3_operate_80 rfl (lv_at hl 0 rfl) ?_
    refine lv_iconst (v := 0) C.1 C.2.1 dX3_operate_81 (by decide) ?_
    refine lv_aload_n C.1 C.2.1 dX3_operate_82 rfl (lv_at hl 0 rfl) ?_
    refine gE_24_0 C G k_136 dX3_operate_83 ?_
    refine lv_iconst (v := 1) C.1 C.2.1 dX3_operate_86 (by decide) ?_
    obtain ⟨r2, S2, eS2, hf⟩ := bnd_e hf
    refine r_cali (As := [.int (1 : Int32)]) (na := 1) C adE G (mX2_numberUnder_5 l D a cI cJ tk tf (1 : Int32) S _ eS2) k_496 k_379 k_380 k_62 k_381 (q0 := 5) rfl (ci := 2) rfl (by decide +kernel) ⟨Nat.le_of_ble_eq_true rfl, Nat.le_of_ble_eq_true rfl⟩ rfl rfl ⟨Nat.zero_le _, Nat.zero_le _⟩ rfl hl.1 rfl (Nat.le_of_ble_eq_true rfl) dX3_operate_87 (fun H locs G => ?_)
    refine lv_aload_n C.1 C.2.1 dX3_operate_90 rfl (lv_at hl 0 rfl) ?_
    refine gE_24_0 C G k_136 dX3_operate_91 ?_
    refine lv_iconst (v := 0) C.1 C.2.1 dX3_operate_94 (by decide) ?_
    obtain ⟨r3, S3, eS3, hf⟩ := bnd_e hf
    refine r_cali (As := [.int (0 : Int32)]) (na := 1) C adE G (mX2_numberUnder_5 l D a cI cJ tk tf (0 : Int32) S2 _ eS3) k_496 k_379 k_380 k_62 k_381 (q0 := 5) rfl (ci := 2) rfl (by decide +kernel) ⟨Nat.le_of_ble_eq_true rfl, Nat.le_of_ble_eq_true rfl⟩ rfl rfl ⟨Nat.zero_le _, Nat.zero_le _⟩ rfl hl.1 rfl (Nat.le_of_ble_eq_true rfl) dX3_operate_95 (fun H locs G => ?_)
    refine lv_iadd C.1 C.2.1 dX3_operate_98 ?_
    obtain ⟨r4, S4, eS4, hf⟩ := bnd_e hf
    refine r_cali (As := [.int (0 : Int32), .int (r2 + r3)]) (na := 2) C adE G (mX3_reckoned_24 l D a cI cJ tk tf (0 : Int32) (r2 + r3) S3 _ eS4) k_497 k_499 k_17 k_61 k_500 (q0 := 24) rfl (ci := 3) rfl (by decide +kernel) ⟨Nat.le_of_ble_eq_true rfl, Nat.le_of_ble_eq_true rfl⟩ rfl rfl ⟨Nat.zero_le _, Nat.zero_le _⟩ rfl hl.1 rfl (Nat.le_of_ble_eq_true rfl) dX3_operate_99 (fun H locs G => ?_)
    exact r_iret C hr G hf dX3_operate_102
  · replace hf := ifq c1 hf
    by_cases c5 : p1 = (1 : Int32)
    · replace hf := ifp c5 hf
      refine lv_tableIn (tgt := 103) C.1 C.2.1 dX3_operate_1 (by rw [c5]; decide) (by rw [c5]; decide) (by rw [c5]; rfl) (by decide) ?_
      refine lv_aload_n C.1 C.2.1 dX3_operate_103 rfl (lv_at hl 0 rfl) ?_
      refine lv_iconst (v := 0) C.1 C.2.1 dX3_operate_104 (by decide) ?_
      refine lv_aload_n C.1 C.2.1 dX3_operate_105 rfl (lv_at hl 0 rfl) ?_
      refine gE_24_0 C G k_136 dX3_operate_106 ?_
      refine lv_iconst (v := 1) C.1 C.2.1 dX3_operate_109 (by decide) ?_
      obtain ⟨r6, S6, eS6, hf⟩ := bnd_e hf
      refine r_cali (As := [.int (1 : Int32)]) (na := 1) C adE G (mX2_numberUnder_5 l D a cI cJ tk tf (1 : Int32) S _ eS6) k_496 k_379 k_380 k_62 k_381 (q0 := 5) rfl (ci := 2) rfl (by decide +kernel) ⟨Nat.le_of_ble_eq_true rfl, Nat.le_of_ble_eq_true rfl⟩ rfl rfl ⟨Nat.zero_le _, Nat.zero_le _⟩ rfl hl.1 rfl (Nat.le_of_ble_eq_true rfl) dX3_operate_110 (fun H locs G => ?_)
      refine lv_aload_n C.1 C.2.1 dX3_operate_113 rfl (lv_at hl 0 rfl) ?_
      refine gE_24_0 C G k_136 dX3_operate_114 ?_
      refine lv_iconst (v := 0) C.1 C.2.1 dX3_operate_117 (by decide) ?_
      obtain ⟨r7, S7, eS7, hf⟩ := bnd_e hf
      refine r_cali (As := [.int (0 : Int32)]) (na := 1) C adE G (mX2_numberUnder_5 l D a cI cJ tk tf (0 : Int32) S6 _ eS7) k_496 k_379 k_380 k_62 k_381 (q0 := 5) rfl (ci := 2) rfl (by decide +kernel) ⟨Nat.le_of_ble_eq_true rfl, Nat.le_of_ble_eq_true rfl⟩ rfl rfl ⟨Nat.zero_le _, Nat.zero_le _⟩ rfl hl.1 rfl (Nat.le_of_ble_eq_true rfl) dX3_operate_118 (fun H locs G => ?_)
      refine lv_isub C.1 C.2.1 dX3_operate_121 ?_
      obtain ⟨r8, S8, eS8, hf⟩ := bnd_e hf
      refine r_cali (As := [.int (0 : Int32), .int (r6 - r7)]) (na := 2) C adE G (mX3_reckoned_24 l D a cI cJ tk tf (0 : Int32) (r6 - r7) S7 _ eS8) k_497 k_499 k_17 k_61 k_500 (q0 := 24) rfl (ci := 3) rfl (by decide +kernel) ⟨Nat.le_of_ble_eq_true rfl, Nat.le_of_ble_eq_true rfl⟩ rfl rfl ⟨Nat.zero_le _, Nat.zero_le _⟩ rfl hl.1 rfl (Nat.le_of_ble_eq_true rfl) dX3_operate_122 (fun H locs G => ?_)
      exact r_iret C hr G hf dX3_operate_125
    · replace hf := ifq c5 hf
      by_cases c9 : p1 = (2 : Int32)
      · replace hf := ifp c9 hf
        refine lv_tableIn (tgt := 126) C.1 C.2.1 dX3_operate_1 (by rw [c9]; decide) (by rw [c9]; decide) (by rw [c9]; rfl) (by decide) ?_
        refine lv_aload_n C.1 C.2.1 dX3_operate_126 rfl (lv_at hl 0 rfl) ?_
        refine lv_iconst (v := 0) C.1 C.2.1 dX3_operate_127 (by decide) ?_
        refine lv_aload_n C.1 C.2.1 dX3_operate_128 rfl (lv_at hl 0 rfl) ?_
        refine gE_24_0 C G k_136 dX3_operate_129 ?_
        refine lv_iconst (v := 1) C.1 C.2.1 dX3_operate_132 (by decide) ?_
        obtain ⟨r10, S10, eS10, hf⟩ := bnd_e hf
        refine r_cali (As := [.int (1 : Int32)]) (na := 1) C adE G (mX2_numberUnder_5 l D a cI cJ tk tf (1 : Int32) S _ eS10) k_496 k_379 k_380 k_62 k_381 (q0 := 5) rfl (ci := 2) rfl (by decide +kernel) ⟨Nat.le_of_ble_eq_true rfl, Nat.le_of_ble_eq_true rfl⟩ rfl rfl ⟨Nat.zero_le _, Nat.zero_le _⟩ rfl hl.1 rfl (Nat.le_of_ble_eq_true rfl) dX3_operate_133 (fun H locs G => ?_)
        refine lv_aload_n C.1 C.2.1 dX3_operate_136 rfl (lv_at hl 0 rfl) ?_
        refine gE_24_0 C G k_136 dX3_operate_137 ?_
        refine lv_iconst (v := 0) C.1 C.2.1 dX3_operate_140 (by decide) ?_
        obtain ⟨r11, S11, eS11, hf⟩ := bnd_e hf
        refine r_cali (As := [.int (0 : Int32)]) (na := 1) C adE G (mX2_numberUnder_5 l D a cI cJ tk tf (0 : Int32) S10 _ eS11) k_496 k_379 k_380 k_62 k_381 (q0 := 5) rfl (ci := 2) rfl (by decide +kernel) ⟨Nat.le_of_ble_eq_true rfl, Nat.le_of_ble_eq_true rfl⟩ rfl rfl ⟨Nat.zero_le _, Nat.zero_le _⟩ rfl hl.1 rfl (Nat.le_of_ble_eq_true rfl) dX3_operate_141 (fun H locs G => ?_)
        refine lv_imul C.1 C.2.1 dX3_operate_144 ?_
        obtain ⟨r12, S12, eS12, hf⟩ := bnd_e hf
        refine r_cali (As := [.int (0 : Int32), .int (r10 * r11)]) (na := 2) C adE G (mX3_reckoned_24 l D a cI cJ tk tf (0 : Int32) (r10 * r11) S11 _ eS12) k_497 k_499 k_17 k_61 k_500 (q0 := 24) rfl (ci := 3) rfl (by decide +kernel) ⟨Nat.le_of_ble_eq_true rfl, Nat.le_of_ble_eq_true rfl⟩ rfl rfl ⟨Nat.zero_le _, Nat.zero_le _⟩ rfl hl.1 rfl (Nat.le_of_ble_eq_true rfl) dX3_operate_145 (fun H locs G => ?_)
        exact r_iret C hr G hf dX3_operate_148
      · replace hf := ifq c9 hf
        by_cases c13 : p1 = (3 : Int32)
        · replace hf := ifp c13 hf
          refine lv_tableIn (tgt := 149) C.1 C.2.1 dX3_operate_1 (by rw [c13]; decide) (by rw [c13]; decide) (by rw [c13]; rfl) (by decide) ?_
          refine lv_aload_n C.1 C.2.1 dX3_operate_149 rfl (lv_at hl 0 rfl) ?_
          refine lv_aload_n C.1 C.2.1 dX3_operate_150 rfl (lv_at hl 0 rfl) ?_
          refine gE_24_0 C G k_136 dX3_operate_151 ?_
          refine lv_iconst (v := 1) C.1 C.2.1 dX3_operate_154 (by decide) ?_
          obtain ⟨r14, S14, eS14, hf⟩ := bnd_e hf
          refine r_cali (As := [.int (1 : Int32)]) (na := 1) C adE G (mX2_numberUnder_5 l D a cI cJ tk tf (1 : Int32) S _ eS14) k_496 k_379 k_380 k_62 k_381 (q0 := 5) rfl (ci := 2) rfl (by decide +kernel) ⟨Nat.le_of_ble_eq_true rfl, Nat.le_of_ble_eq_true rfl⟩ rfl rfl ⟨Nat.zero_le _, Nat.zero_le _⟩ rfl hl.1 rfl (Nat.le_of_ble_eq_true rfl) dX3_operate_155 (fun H locs G => ?_)
          refine lv_aload_n C.1 C.2.1 dX3_operate_158 rfl (lv_at hl 0 rfl) ?_
          refine gE_24_0 C G k_136 dX3_operate_159 ?_
          refine lv_iconst (v := 0) C.1 C.2.1 dX3_operate_162 (by decide) ?_
          obtain ⟨r15, S15, eS15, hf⟩ := bnd_e hf
          refine r_cali (As := [.int (0 : Int32)]) (na := 1) C adE G (mX2_numberUnder_5 l D a cI cJ tk tf (0 : Int32) S14 _ eS15) k_496 k_379 k_380 k_62 k_381 (q0 := 5) rfl (ci := 2) rfl (by decide +kernel) ⟨Nat.le_of_ble_eq_true rfl, Nat.le_of_ble_eq_true rfl⟩ rfl rfl ⟨Nat.zero_le _, Nat.zero_le _⟩ rfl hl.1 rfl (Nat.le_of_ble_eq_true rfl) dX3_operate_163 (fun H locs G => ?_)
          obtain ⟨r16, S16, eS16, hf⟩ := bnd_e hf
          refine r_cali (As := [.int r14, .int r15]) (na := 2) C adE G (mX3_divide_24 l D a cI cJ tk tf r14 r15 S15 _ eS16) k_501 k_503 k_18 k_61 k_504 (q0 := 24) rfl (ci := 3) rfl (by decide +kernel) ⟨Nat.le_of_ble_eq_true rfl, Nat.le_of_ble_eq_true rfl⟩ rfl rfl ⟨Nat.zero_le _, Nat.zero_le _⟩ rfl hl.1 rfl (Nat.le_of_ble_eq_true rfl) dX3_operate_166 (fun H locs G => ?_)
          exact r_iret C hr G hf dX3_operate_169
        · replace hf := ifq c13 hf
          by_cases c17 : p1 = (4 : Int32)
          · replace hf := ifp c17 hf
            refine lv_tableIn (tgt := 170) C.1 C.2.1 dX3_operate_1 (by rw [c17]; decide) (by rw [c17]; decide) (by rw [c17]; rfl) (by decide) ?_
            refine lv_aload_n C.1 C.2.1 dX3_operate_170 rfl (lv_at hl 0 rfl) ?_
            refine lv_iconst (v := 1) C.1 C.2.1 dX3_operate_171 (by decide) ?_
            refine lv_aload_n C.1 C.2.1 dX3_operate_172 rfl (lv_at hl 0 rfl) ?_
            obtain ⟨r18, S18, eS18, hf⟩ := bnd_e hf
            refine r_cali (As := []) (na := 0) C adE G (mX3_topTwoAreTheSame_24 l D a cI cJ tk tf S _ eS18) k_505 k_507 k_19 k_61 k_508 (q0 := 24) rfl (ci := 3) rfl (by decide +kernel) ⟨Nat.le_of_ble_eq_true rfl, Nat.le_of_ble_eq_true rfl⟩ rfl rfl ⟨Nat.zero_le _, Nat.zero_le _⟩ rfl hl.1 rfl (Nat.le_of_ble_eq_true rfl) dX3_operate_173 (fun H locs G => ?_)
            refine lv_if_eq (tgt := 183) C.1 C.2.1 dX3_operate_176 (by decide) (fun c19 => ?_) (fun c19 => ?_)
            · replace hf := ifp c19 hf
              refine lv_iconst (v := 0) C.1 C.2.1 dX3_operate_183 (by decide) ?_
              exact rX3_operate_24_184 C hr (1 : Int32) (0 : Int32) S18 _ _ _ _ hf G (lv_sub hl [] rfl)
            · replace hf := ifq c19 hf
              refine lv_iconst (v := 1) C.1 C.2.1 dX3_operate_179 (by decide) ?_
              refine lv_goto (tgt := 184) C.1 C.2.1 dX3_operate_180 (by decide) ?_
              exact rX3_operate_24_184 C hr (1 : Int32) (1 : Int32) S18 _ _ _ _ hf G (lv_sub hl [] rfl)
          · replace hf := ifq c17 hf
            by_cases c20 : p1 = (5 : Int32)
            · replace hf := ifp c20 hf
              refine lv_tableIn (tgt := 188) C.1 C.2.1 dX3_operate_1 (by rw [c20]; decide) (by rw [c20]; decide) (by rw [c20]; rfl) (by decide) ?_
              refine lv_aload_n C.1 C.2.1 dX3_operate_188 rfl (lv_at hl 0 rfl) ?_
              refine lv_iconst (v := 1) C.1 C.2.1 dX3_operate_189 (by decide) ?_
              refine lv_aload_n C.1 C.2.1 dX3_operate_190 rfl (lv_at hl 0 rfl) ?_
              refine gE_24_0 C G k_136 dX3_operate_191 ?_
              refine lv_iconst (v := 1) C.1 C.2.1 dX3_operate_194 (by decide) ?_
              obtain ⟨r21, S21, eS21, hf⟩ := bnd_e hf
              refine r_cali (As := [.int (1 : Int32)]) (na := 1) C adE G (mX2_numberUnder_5 l D a cI cJ tk tf (1 : Int32) S _ eS21) k_496 k_379 k_380 k_62 k_381 (q0 := 5) rfl (ci := 2) rfl (by decide +kernel) ⟨Nat.le_of_ble_eq_true rfl, Nat.le_of_ble_eq_true rfl⟩ rfl rfl ⟨Nat.zero_le _, Nat.zero_le _⟩ rfl hl.1 rfl (Nat.le_of_ble_eq_true rfl) dX3_operate_195 (fun H locs G => ?_)
              refine lv_aload_n C.1 C.2.1 dX3_operate_198 rfl (lv_at hl 0 rfl) ?_
              refine gE_24_0 C G k_136 dX3_operate_199 ?_
              refine lv_iconst (v := 0) C.1 C.2.1 dX3_operate_202 (by decide) ?_
              obtain ⟨r22, S22, eS22, hf⟩ := bnd_e hf
              refine r_cali (As := [.int (0 : Int32)]) (na := 1) C adE G (mX2_numberUnder_5 l D a cI cJ tk tf (0 : Int32) S21 _ eS22) k_496 k_379 k_380 k_62 k_381 (q0 := 5) rfl (ci := 2) rfl (by decide +kernel) ⟨Nat.le_of_ble_eq_true rfl, Nat.le_of_ble_eq_true rfl⟩ rfl rfl ⟨Nat.zero_le _, Nat.zero_le _⟩ rfl hl.1 rfl (Nat.le_of_ble_eq_true rfl) dX3_operate_203 (fun H locs G => ?_)
              refine lv_icmp_ge (tgt := 213) C.1 C.2.1 dX3_operate_206 (by decide) (fun c23 => ?_) (fun c23 => ?_)
              · replace hf := ifp c23 hf
                refine lv_iconst (v := 0) C.1 C.2.1 dX3_operate_213 (by decide) ?_
                exact rX3_operate_24_214 C hr (1 : Int32) (0 : Int32) S22 _ _ _ _ hf G (lv_sub hl [] rfl)
              · replace hf := ifq c23 hf
                refine lv_iconst (v := 1) C.1 C.2.1 dX3_operate_209 (by decide) ?_
                refine lv_goto (tgt := 214) C.1 C.2.1 dX3_operate_210 (by decide) ?_
                exact rX3_operate_24_214 C hr (1 : Int32) (1 : Int32) S22 _ _ _ _ hf G (lv_sub hl [] rfl)
            · replace hf := ifq c20 hf
              by_cases c24 : p1 = (6 : Int32)
              · replace hf := ifp c24 hf
                refine lv_tableIn (tgt := 218) C.1 C.2.1 dX3_operate_1 (by rw [c24]; decide) (by rw [c24]; decide) (by rw [c24]; rfl) (by decide) ?_
                refine lv_aload_n C.1 C.2.1 dX3_operate_218 rfl (lv_at hl 0 rfl) ?_
                refine gE_24_0 C G k_136 dX3_operate_219 ?_
                refine lv_iconst (v := 1) C.1 C.2.1 dX3_operate_222 (by decide) ?_
                refine lv_iconst (v := 1) C.1 C.2.1 dX3_operate_223 (by decide) ?_
                refine lv_iconst (v := 1) C.1 C.2.1 dX3_operate_224 (by decide) ?_
                refine lv_aload_n C.1 C.2.1 dX3_operate_225 rfl (lv_at hl 0 rfl) ?_
                refine gE_24_0 C G k_136 dX3_operate_226 ?_
                refine lv_iconst (v := 0) C.1 C.2.1 dX3_operate_229 (by decide) ?_
                obtain ⟨r25, S25, eS25, hf⟩ := bnd_e hf
                refine r_cali (As := [.int (0 : Int32)]) (na := 1) C adE G (mX2_numberUnder_5 l D a cI cJ tk tf (0 : Int32) S _ eS25) k_496 k_379 k_380 k_62 k_381 (q0 := 5) rfl (ci := 2) rfl (by decide +kernel) ⟨Nat.le_of_ble_eq_true rfl, Nat.le_of_ble_eq_true rfl⟩ rfl rfl ⟨Nat.zero_le _, Nat.zero_le _⟩ rfl hl.1 rfl (Nat.le_of_ble_eq_true rfl) dX3_operate_230 (fun H locs G => ?_)
                refine lv_isub C.1 C.2.1 dX3_operate_233 ?_
                obtain ⟨r26, S26, eS26, hf⟩ := bnd_e hf
                refine r_calv (As := [.int (1 : Int32), .int (1 : Int32), .int ((1 : Int32) - r25)]) (na := 3) C adE G (mX2_replace_5 l D a cI cJ tk tf (1 : Int32) (1 : Int32) ((1 : Int32) - r25) S25 _ eS26) k_405 k_406 k_407 k_62 k_408 (q0 := 5) rfl (ci := 2) rfl (by decide +kernel) ⟨Nat.le_of_ble_eq_true rfl, Nat.le_of_ble_eq_true rfl⟩ rfl rfl ⟨Nat.zero_le _, Nat.zero_le _⟩ rfl hl.1 rfl (Nat.le_of_ble_eq_true rfl) dX3_operate_234 (fun H locs G => ?_)
                refine lv_iconst (v := 0) C.1 C.2.1 dX3_operate_237 (by decide) ?_
                exact r_iret C hr G hf dX3_operate_238
              · replace hf := ifq c24 hf
                by_cases c27 : p1 = (7 : Int32)
                · replace hf := ifp c27 hf
                  refine lv_tableIn (tgt := 239) C.1 C.2.1 dX3_operate_1 (by rw [c27]; decide) (by rw [c27]; decide) (by rw [c27]; rfl) (by decide) ?_
                  refine lv_aload_n C.1 C.2.1 dX3_operate_239 rfl (lv_at hl 0 rfl) ?_
                  refine gE_24_0 C G k_136 dX3_operate_240 ?_
                  refine lv_iconst (v := 1) C.1 C.2.1 dX3_operate_243 (by decide) ?_
                  obtain ⟨r28, S28, eS28, hf⟩ := bnd_e hf
                  refine r_calv (As := [.int (1 : Int32)]) (na := 1) C adE G (mX2_takeOff_5 l D a cI cJ tk tf (1 : Int32) S _ eS28) k_510 k_301 k_302 k_62 k_303 (q0 := 5) rfl (ci := 2) rfl (by decide +kernel) ⟨Nat.le_of_ble_eq_true rfl, Nat.le_of_ble_eq_true rfl⟩ rfl rfl ⟨Nat.zero_le _, Nat.zero_le _⟩ rfl hl.1 rfl (Nat.le_of_ble_eq_true rfl) dX3_operate_244 (fun H locs G => ?_)
                  refine lv_iconst (v := 0) C.1 C.2.1 dX3_operate_247 (by decide) ?_
                  exact r_iret C hr G hf dX3_operate_248
                · replace hf := ifq c27 hf
                  by_cases c29 : p1 = (8 : Int32)
                  · replace hf := ifp c29 hf
                    refine lv_tableIn (tgt := 249) C.1 C.2.1 dX3_operate_1 (by rw [c29]; decide) (by rw [c29]; decide) (by rw [c29]; rfl) (by decide) ?_
                    refine lv_aload_n C.1 C.2.1 dX3_operate_249 rfl (lv_at hl 0 rfl) ?_
                    refine lv_aload_n C.1 C.2.1 dX3_operate_250 rfl (lv_at hl 0 rfl) ?_
                    refine gE_24_0 C G k_136 dX3_operate_251 ?_
                    refine lv_iconst (v := 0) C.1 C.2.1 dX3_operate_254 (by decide) ?_
                    obtain ⟨r30, S30, eS30, hf⟩ := bnd_e hf
                    refine r_cali (As := [.int (0 : Int32)]) (na := 1) C adE G (mX2_kindUnder_5 l D a cI cJ tk tf (0 : Int32) S _ eS30) k_509 k_371 k_372 k_62 k_373 (q0 := 5) rfl (ci := 2) rfl (by decide +kernel) ⟨Nat.le_of_ble_eq_true rfl, Nat.le_of_ble_eq_true rfl⟩ rfl rfl ⟨Nat.zero_le _, Nat.zero_le _⟩ rfl hl.1 rfl (Nat.le_of_ble_eq_true rfl) dX3_operate_255 (fun H locs G => ?_)
                    refine lv_aload_n C.1 C.2.1 dX3_operate_258 rfl (lv_at hl 0 rfl) ?_
                    refine gE_24_0 C G k_136 dX3_operate_259 ?_
                    refine lv_iconst (v := 0) C.1 C.2.1 dX3_operate_262 (by decide) ?_
                    obtain ⟨r31, S31, eS31, hf⟩ := bnd_e hf
                    refine r_cali (As := [.int (0 : Int32)]) (na := 1) C adE G (mX2_numberUnder_5 l D a cI cJ tk tf (0 : Int32) S30 _ eS31) k_496 k_379 k_380 k_62 k_381 (q0 := 5) rfl (ci := 2) rfl (by decide +kernel) ⟨Nat.le_of_ble_eq_true rfl, Nat.le_of_ble_eq_true rfl⟩ rfl rfl ⟨Nat.zero_le _, Nat.zero_le _⟩ rfl hl.1 rfl (Nat.le_of_ble_eq_true rfl) dX3_operate_263 (fun H locs G => ?_)
                    obtain ⟨r32, S32, eS32, hf⟩ := bnd_e hf
                    refine r_cali (As := [.int r30, .int r31]) (na := 2) C adE G (mX3_more_24 l D a cI cJ tk tf r30 r31 S31 _ eS32) k_511 k_513 k_20 k_61 k_514 (q0 := 24) rfl (ci := 3) rfl (by decide +kernel) ⟨Nat.le_of_ble_eq_true rfl, Nat.le_of_ble_eq_true rfl⟩ rfl rfl ⟨Nat.zero_le _, Nat.zero_le _⟩ rfl hl.1 rfl (Nat.le_of_ble_eq_true rfl) dX3_operate_266 (fun H locs G => ?_)
                    exact r_iret C hr G hf dX3_operate_269
                  · replace hf := ifq c29 hf
                    by_cases c33 : p1 = (9 : Int32)
                    · replace hf := ifp c33 hf
                      refine lv_tableIn (tgt := 270) C.1 C.2.1 dX3_operate_1 (by rw [c33]; decide) (by rw [c33]; decide) (by rw [c33]; rfl) (by decide) ?_
                      refine lv_aload_n C.1 C.2.1 dX3_operate_270 rfl (lv_at hl 0 rfl) ?_
                      obtain ⟨r34, S34, eS34, hf⟩ := bnd_e hf
                      refine r_cali (As := []) (na := 0) C adE G (mX3_swap_24 l D a cI cJ tk tf S _ eS34) k_516 k_518 k_21 k_61 k_519 (q0 := 24) rfl (ci := 3) rfl (by decide +kernel) ⟨Nat.le_of_ble_eq_true rfl, Nat.le_of_ble_eq_true rfl⟩ rfl rfl ⟨Nat.zero_le _, Nat.zero_le _⟩ rfl hl.1 rfl (Nat.le_of_ble_eq_true rfl) dX3_operate_271 (fun H locs G => ?_)
                      exact r_iret C hr G hf dX3_operate_274
                    · replace hf := ifq c33 hf
                      by_cases c35 : p1 = (10 : Int32)
                      · replace hf := ifp c35 hf
                        refine lv_tableIn (tgt := 275) C.1 C.2.1 dX3_operate_1 (by rw [c35]; decide) (by rw [c35]; decide) (by rw [c35]; rfl) (by decide) ?_
                        refine lv_aload_n C.1 C.2.1 dX3_operate_275 rfl (lv_at hl 0 rfl) ?_
                        refine lv_aload_n C.1 C.2.1 dX3_operate_276 rfl (lv_at hl 0 rfl) ?_
                        refine gE_24_0 C G k_136 dX3_operate_277 ?_
                        refine lv_iconst (v := 0) C.1 C.2.1 dX3_operate_280 (by decide) ?_
                        obtain ⟨r36, S36, eS36, hf⟩ := bnd_e hf
                        refine r_cali (As := [.int (0 : Int32)]) (na := 1) C adE G (mX2_numberUnder_5 l D a cI cJ tk tf (0 : Int32) S _ eS36) k_496 k_379 k_380 k_62 k_381 (q0 := 5) rfl (ci := 2) rfl (by decide +kernel) ⟨Nat.le_of_ble_eq_true rfl, Nat.le_of_ble_eq_true rfl⟩ rfl rfl ⟨Nat.zero_le _, Nat.zero_le _⟩ rfl hl.1 rfl (Nat.le_of_ble_eq_true rfl) dX3_operate_281 (fun H locs G => ?_)
                        obtain ⟨r37, S37, eS37, hf⟩ := bnd_e hf
                        refine r_cali (As := [.int r36]) (na := 1) C adE G (mX3_pick_24 l D a cI cJ tk tf r36 S36 _ eS37) k_520 k_522 k_22 k_61 k_523 (q0 := 24) rfl (ci := 3) rfl (by decide +kernel) ⟨Nat.le_of_ble_eq_true rfl, Nat.le_of_ble_eq_true rfl⟩ rfl rfl ⟨Nat.zero_le _, Nat.zero_le _⟩ rfl hl.1 rfl (Nat.le_of_ble_eq_true rfl) dX3_operate_284 (fun H locs G => ?_)
                        exact r_iret C hr G hf dX3_operate_287
                      · replace hf := ifq c35 hf
                        by_cases c38 : p1 = (11 : Int32)
                        · replace hf := ifp c38 hf
                          refine lv_tableIn (tgt := 288) C.1 C.2.1 dX3_operate_1 (by rw [c38]; decide) (by rw [c38]; decide) (by rw [c38]; rfl) (by decide) ?_
                          refine lv_aload_n C.1 C.2.1 dX3_operate_288 rfl (lv_at hl 0 rfl) ?_
                          refine lv_iconst (v := 0) C.1 C.2.1 dX3_operate_289 (by decide) ?_
                          refine lv_aload_n C.1 C.2.1 dX3_operate_290 rfl (lv_at hl 0 rfl) ?_
                          refine gE_24_0 C G k_136 dX3_operate_291 ?_
                          obtain ⟨r39, S39, eS39, hf⟩ := bnd_e hf
                          refine r_cali (As := []) (na := 0) C adE G (mX2_count_5 l D a cI cJ tk tf S _ eS39) k_524 k_293 k_294 k_62 k_295 (q0 := 5) rfl (ci := 2) rfl (by decide +kernel) ⟨Nat.le_of_ble_eq_true rfl, Nat.le_of_ble_eq_true rfl⟩ rfl rfl ⟨Nat.zero_le _, Nat.zero_le _⟩ rfl hl.1 rfl (Nat.le_of_ble_eq_true rfl) dX3_operate_294 (fun H locs G => ?_)
                          obtain ⟨r40, S40, eS40, hf⟩ := bnd_e hf
                          refine r_cali (As := [.int (0 : Int32), .int r39]) (na := 2) C adE G (mX3_more_24 l D a cI cJ tk tf (0 : Int32) r39 S39 _ eS40) k_511 k_513 k_20 k_61 k_514 (q0 := 24) rfl (ci := 3) rfl (by decide +kernel) ⟨Nat.le_of_ble_eq_true rfl, Nat.le_of_ble_eq_true rfl⟩ rfl rfl ⟨Nat.zero_le _, Nat.zero_le _⟩ rfl hl.1 rfl (Nat.le_of_ble_eq_true rfl) dX3_operate_297 (fun H locs G => ?_)
                          exact r_iret C hr G hf dX3_operate_300
                        · replace hf := ifq c38 hf
                          by_cases c41 : p1 = (12 : Int32)
                          · replace hf := ifp c41 hf
                            refine lv_tableIn (tgt := 301) C.1 C.2.1 dX3_operate_1 (by rw [c41]; decide) (by rw [c41]; decide) (by rw [c41]; rfl) (by decide) ?_
                            refine lv_aload_n C.1 C.2.1 dX3_operate_301 rfl (lv_at hl 0 rfl) ?_
                            obtain ⟨r42, S42, eS42, hf⟩ := bnd_e hf
                            refine r_cali (As := []) (na := 0) C adE G (mX3_countToMark_24 l D a cI cJ tk tf S _ eS42) k_525 k_527 k_23 k_61 k_528 (q0 := 24) rfl (ci := 3) rfl (by decide +kernel) ⟨Nat.le_of_ble_eq_true rfl, Nat.le_of_ble_eq_true rfl⟩ rfl rfl ⟨Nat.zero_le _, Nat.zero_le _⟩ rfl hl.1 rfl (Nat.le_of_ble_eq_true rfl) dX3_operate_302 (fun H locs G => ?_)
                            exact r_iret C hr G hf dX3_operate_305
                          · replace hf := ifq c41 hf
                            by_cases c43 : p1 = (13 : Int32)
                            · replace hf := ifp c43 hf
                              refine lv_tableIn (tgt := 306) C.1 C.2.1 dX3_operate_1 (by rw [c43]; decide) (by rw [c43]; decide) (by rw [c43]; rfl) (by decide) ?_
                              refine lv_aload_n C.1 C.2.1 dX3_operate_306 rfl (lv_at hl 0 rfl) ?_
                              obtain ⟨r44, S44, eS44, hf⟩ := bnd_e hf
                              refine r_cali (As := []) (na := 0) C adE G (mX3_clearToMark_24 l D a cI cJ tk tf S _ eS44) k_533 k_535 k_24 k_61 k_536 (q0 := 24) rfl (ci := 3) rfl (by decide +kernel) ⟨Nat.le_of_ble_eq_true rfl, Nat.le_of_ble_eq_true rfl⟩ rfl rfl ⟨Nat.zero_le _, Nat.zero_le _⟩ rfl hl.1 rfl (Nat.le_of_ble_eq_true rfl) dX3_operate_307 (fun H locs G => ?_)
                              exact r_iret C hr G hf dX3_operate_310
                            · replace hf := ifq c43 hf
                              by_cases c45 : p1 = (14 : Int32)
                              · replace hf := ifp c45 hf
                                refine lv_tableIn (tgt := 311) C.1 C.2.1 dX3_operate_1 (by rw [c45]; decide) (by rw [c45]; decide) (by rw [c45]; rfl) (by decide) ?_
                                refine lv_aload_n C.1 C.2.1 dX3_operate_311 rfl (lv_at hl 0 rfl) ?_
                                obtain ⟨r46, S46, eS46, hf⟩ := bnd_e hf
                                refine r_cali (As := []) (na := 0) C adE G (mX3_define_24 l D a cI cJ tk tf S _ eS46) k_537 k_539 k_25 k_61 k_540 (q0 := 24) rfl (ci := 3) rfl (by decide +kernel) ⟨Nat.le_of_ble_eq_true rfl, Nat.le_of_ble_eq_true rfl⟩ rfl rfl ⟨Nat.zero_le _, Nat.zero_le _⟩ rfl hl.1 rfl (Nat.le_of_ble_eq_true rfl) dX3_operate_312 (fun H locs G => ?_)
                                exact r_iret C hr G hf dX3_operate_315
                              · replace hf := ifq c45 hf
                                by_cases c47 : p1 = (15 : Int32)
                                · replace hf := ifp c47 hf
                                  refine lv_tableIn (tgt := 316) C.1 C.2.1 dX3_operate_1 (by rw [c47]; decide) (by rw [c47]; decide) (by rw [c47]; rfl) (by decide) ?_
                                  refine lv_aload_n C.1 C.2.1 dX3_operate_316 rfl (lv_at hl 0 rfl) ?_
                                  refine lv_aload_n C.1 C.2.1 dX3_operate_317 rfl (lv_at hl 0 rfl) ?_
                                  refine gE_24_0 C G k_136 dX3_operate_318 ?_
                                  refine lv_iconst (v := 0) C.1 C.2.1 dX3_operate_321 (by decide) ?_
                                  obtain ⟨r48, S48, eS48, hf⟩ := bnd_e hf
                                  refine r_cali (As := [.int (0 : Int32)]) (na := 1) C adE G (mX2_numberUnder_5 l D a cI cJ tk tf (0 : Int32) S _ eS48) k_496 k_379 k_380 k_62 k_381 (q0 := 5) rfl (ci := 2) rfl (by decide +kernel) ⟨Nat.le_of_ble_eq_true rfl, Nat.le_of_ble_eq_true rfl⟩ rfl rfl ⟨Nat.zero_le _, Nat.zero_le _⟩ rfl hl.1 rfl (Nat.le_of_ble_eq_true rfl) dX3_operate_322 (fun H locs G => ?_)
                                  obtain ⟨r49, S49, eS49, hf⟩ := bnd_e hf
                                  refine r_cali (As := [.int r48]) (na := 1) C adE G (mX3_lookUp_24 l D a cI cJ tk tf r48 S48 _ eS49) k_545 k_400 k_401 k_61 k_402 (q0 := 24) rfl (ci := 3) rfl (by decide +kernel) ⟨Nat.le_of_ble_eq_true rfl, Nat.le_of_ble_eq_true rfl⟩ rfl rfl ⟨Nat.zero_le _, Nat.zero_le _⟩ rfl hl.1 rfl (Nat.le_of_ble_eq_true rfl) dX3_operate_325 (fun H locs G => ?_)
                                  exact r_iret C hr G hf dX3_operate_328
                                · replace hf := ifq c47 hf
                                  have nc1 : (p1).toInt ≠ 0 := nti c1
                                  have nc5 : (p1).toInt ≠ 1 := nti c5
                                  have nc9 : (p1).toInt ≠ 2 := nti c9
                                  have nc13 : (p1).toInt ≠ 3 := nti c13
                                  have nc17 : (p1).toInt ≠ 4 := nti c17
                                  have nc20 : (p1).toInt ≠ 5 := nti c20
                                  have nc24 : (p1).toInt ≠ 6 := nti c24
                                  have nc27 : (p1).toInt ≠ 7 := nti c27
                                  have nc29 : (p1).toInt ≠ 8 := nti c29
                                  have nc33 : (p1).toInt ≠ 9 := nti c33
                                  have nc35 : (p1).toInt ≠ 10 := nti c35
                                  have nc38 : (p1).toInt ≠ 11 := nti c38
                                  have nc41 : (p1).toInt ≠ 12 := nti c41
                                  have nc43 : (p1).toInt ≠ 13 := nti c43
                                  have nc45 : (p1).toInt ≠ 14 := nti c45
                                  have nc47 : (p1).toInt ≠ 15 := nti c47
                                  refine lv_tableOut (tgt := 329) C.1 C.2.1 dX3_operate_1 (by omega) (by decide) ?_
                                  refine lv_iconst (v := 4) C.1 C.2.1 dX3_operate_329 (by decide) ?_
                                  exact r_iret C hr G hf dX3_operate_330
set_option maxRecDepth 100000 in
set_option maxHeartbeats 4000000 in
theorem rX5_has_20_13 {p : Program} {l : Launch} {e : Env} {s : State} {m : MethodId} {args : Array Value} {below : List Frame} {meth : Method} {c : Code} {D : va_G} {a : Nat → Nat} {cI cJ : ClassId} {tk : Nat} {tf : Nat → Int32} (C : Cx p s m args meth c RX5 cX5_has 2 D cI cJ tk tf (AR a 25 s.heap.size)) (hr : meth.sig.returnType = (some .boolean)) : ∀ (S : St) (x : Int32 × St) (H : Heap) (locs : List Loc) (ls : Array Slot), fX5_has_20_13 S = some x → Wd D (wE a cI cJ) (AR a 25 s.heap.size) s S H locs → lv_has ls 2 [] → W p l e { frames := 0, cells := 0, slots := 0, locals := 0 } s m args below meth c H locs 0 0 (MQ below (Qi D (wE a cI cJ) (AR a 25 s.heap.size) x) args s 0 0 (AR a 25 s.heap.size)) (F0 m 13 ls []) := by
  intro S x H locs ls hf G hl
  unfold fX5_has_20_13 at hf
  refine lv_iconst (v := 0) C.1 C.2.1 dX5_has_13 (by decide) ?_
  exact r_zret C hr (Or.inl rfl) G hf dX5_has_14
set_option maxRecDepth 100000 in
set_option maxHeartbeats 4000000 in
theorem mX5_has_20 (l : Launch) (D : va_G) (a : Nat → Nat) (cI cJ : ClassId) (tk : Nat) (tf : Nat → Int32) (p1 : Int32) (S : St) (x : Int32 × St) (hf : fX5_has_20 p1 S = some x) : Mi l D (wE a cI cJ) a 25 cI cJ tk tf yX5_has cX5_has 2 (some .boolean) { frames := 0, cells := 0, slots := 0, locals := 0 } [.ref (a 20), .int p1] S x := by
  refine opn_i (by decide +kernel) (Nat.le_of_ble_eq_true rfl) (fun p e s m below meth c C hr G ls hl => ?_)
  replace hl : lv_has ls 2 [(0, .ref (a 20)), (1, .int p1)] := hl
  unfold fX5_has_20 at hf
  refine lv_iload_n C.1 C.2.1 dX5_has_0 rfl (lv_at hl 1 rfl) ?_
  refine lv_if_lt (tgt := 13) C.1 C.2.1 dX5_has_1 (by decide) (fun c1 => ?_) (fun c1 => ?_)
  · replace hf := ifp c1 hf
    exact rX5_has_20_13 C hr S _ _ _ _ hf G (lv_sub hl [] rfl)
  · replace hf := ifq c1 hf
    refine lv_iload_n C.1 C.2.1 dX5_has_4 rfl (lv_at hl 1 rfl) ?_
    refine lv_iconst (v := 5) C.1 C.2.1 dX5_has_5 (by decide) ?_
    refine lv_icmp_gt (tgt := 13) C.1 C.2.1 dX5_has_6 (by decide) (fun c2 => ?_) (fun c2 => ?_)
    · replace hf := ifp c2 hf
      exact rX5_has_20_13 C hr S _ _ _ _ hf G (lv_sub hl [] rfl)
    · replace hf := ifq c2 hf
      refine lv_iconst (v := 1) C.1 C.2.1 dX5_has_9 (by decide) ?_
      refine lv_goto (tgt := 14) C.1 C.2.1 dX5_has_10 (by decide) ?_
      exact r_zret C hr (Or.inr rfl) G hf dX5_has_14
set_option maxRecDepth 100000 in
set_option maxHeartbeats 4000000 in
theorem mX2_count_21 (l : Launch) (D : va_G) (a : Nat → Nat) (cI cJ : ClassId) (tk : Nat) (tf : Nat → Int32) (S : St) (x : Int32 × St) (hf : fX2_count_21 S = some x) : Mi l D (wE a cI cJ) a 25 cI cJ tk tf yX2_count cX2_count 1 (some .int) { frames := 0, cells := 0, slots := 0, locals := 0 } [.ref (a 21)] S x := by
  refine opn_i (by decide +kernel) (Nat.le_of_ble_eq_true rfl) (fun p e s m below meth c C hr G ls hl => ?_)
  replace hl : lv_has ls 1 [(0, .ref (a 21))] := hl
  unfold fX2_count_21 at hf
  refine lv_aload_n C.1 C.2.1 dX2_count_0 rfl (lv_at hl 0 rfl) ?_
  refine gE_21_2 C G k_112 dX2_count_1 ?_
  exact r_iret C hr G hf dX2_count_4
set_option maxRecDepth 100000 in
set_option maxHeartbeats 4000000 in
theorem mX5_told_20 (l : Launch) (D : va_G) (a : Nat → Nat) (cI cJ : ClassId) (tk : Nat) (tf : Nat → Int32) (p1 : Int32) (S : St) (x : Int32 × St) (hf : fX5_told_20 p1 S = some x) : Mi l D (wE a cI cJ) a 25 cI cJ tk tf yX5_told cX5_told 2 (some .int) { frames := 1, cells := 0, slots := 0, locals := 20 } [.ref (a 20), .int p1] S x := by
  refine opn_i (by decide +kernel) (Nat.le_of_ble_eq_true rfl) (fun p e s m below meth c C hr G ls hl => ?_)
  replace hl : lv_has ls 2 [(0, .ref (a 20)), (1, .int p1)] := hl
  unfold fX5_told_20 at hf
  refine lv_iload_n C.1 C.2.1 dX5_told_0 rfl (lv_at hl 1 rfl) ?_
  by_cases c1 : p1 = (0 : Int32)
  · replace hf := ifp c1 hf
    refine lv_tableIn (tgt := 36) C.1 C.2.1 dX5_told_1 (by rw [c1]; decide) (by rw [c1]; decide) (by rw [c1]; rfl) (by decide) ?_
    refine lv_aload_n C.1 C.2.1 dX5_told_36 rfl (lv_at hl 0 rfl) ?_
    refine gE_20_1 C G k_203 dX5_told_37 ?_
    exact r_iret C hr G hf dX5_told_40
  · replace hf := ifq c1 hf
    by_cases c2 : p1 = (1 : Int32)
    · replace hf := ifp c2 hf
      refine lv_tableIn (tgt := 41) C.1 C.2.1 dX5_told_1 (by rw [c2]; decide) (by rw [c2]; decide) (by rw [c2]; rfl) (by decide) ?_
      refine lv_aload_n C.1 C.2.1 dX5_told_41 rfl (lv_at hl 0 rfl) ?_
      refine gE_20_2 C G k_204 dX5_told_42 ?_
      exact r_iret C hr G hf dX5_told_45
    · replace hf := ifq c2 hf
      by_cases c3 : p1 = (2 : Int32)
      · replace hf := ifp c3 hf
        refine lv_tableIn (tgt := 46) C.1 C.2.1 dX5_told_1 (by rw [c3]; decide) (by rw [c3]; decide) (by rw [c3]; rfl) (by decide) ?_
        refine lv_aload_n C.1 C.2.1 dX5_told_46 rfl (lv_at hl 0 rfl) ?_
        refine gE_20_5 C G k_207 dX5_told_47 ?_
        refine lv_if_eq (tgt := 57) C.1 C.2.1 dX5_told_50 (by decide) (fun c4 => ?_) (fun c4 => ?_)
        · replace hf := ifp c4 hf
          refine lv_iconst (v := 0) C.1 C.2.1 dX5_told_57 (by decide) ?_
          exact r_iret C hr G hf dX5_told_58
        · replace hf := ifq c4 hf
          refine lv_iconst (v := 1) C.1 C.2.1 dX5_told_53 (by decide) ?_
          refine lv_goto (tgt := 58) C.1 C.2.1 dX5_told_54 (by decide) ?_
          exact r_iret C hr G hf dX5_told_58
      · replace hf := ifq c3 hf
        by_cases c5 : p1 = (3 : Int32)
        · replace hf := ifp c5 hf
          refine lv_tableIn (tgt := 59) C.1 C.2.1 dX5_told_1 (by rw [c5]; decide) (by rw [c5]; decide) (by rw [c5]; rfl) (by decide) ?_
          refine lv_aload_n C.1 C.2.1 dX5_told_59 rfl (lv_at hl 0 rfl) ?_
          refine gE_20_3 C G k_205 dX5_told_60 ?_
          exact r_iret C hr G hf dX5_told_63
        · replace hf := ifq c5 hf
          by_cases c6 : p1 = (4 : Int32)
          · replace hf := ifp c6 hf
            refine lv_tableIn (tgt := 64) C.1 C.2.1 dX5_told_1 (by rw [c6]; decide) (by rw [c6]; decide) (by rw [c6]; rfl) (by decide) ?_
            refine lv_aload_n C.1 C.2.1 dX5_told_64 rfl (lv_at hl 0 rfl) ?_
            refine gE_20_0 C G k_202 dX5_told_65 ?_
            obtain ⟨r7, S7, eS7, hf⟩ := bnd_e hf
            refine r_cali (As := []) (na := 0) C adE G (mX2_count_21 l D a cI cJ tk tf S _ eS7) k_486 k_293 k_294 k_62 k_295 (q0 := 21) rfl (ci := 2) rfl (by decide +kernel) ⟨Nat.le_of_ble_eq_true rfl, Nat.le_of_ble_eq_true rfl⟩ rfl rfl ⟨Nat.zero_le _, Nat.zero_le _⟩ rfl hl.1 rfl (Nat.le_of_ble_eq_true rfl) dX5_told_68 (fun H locs G => ?_)
            exact r_iret C hr G hf dX5_told_71
          · replace hf := ifq c6 hf
            have nc1 : (p1).toInt ≠ 0 := nti c1
            have nc2 : (p1).toInt ≠ 1 := nti c2
            have nc3 : (p1).toInt ≠ 2 := nti c3
            have nc5 : (p1).toInt ≠ 3 := nti c5
            have nc6 : (p1).toInt ≠ 4 := nti c6
            refine lv_tableOut (tgt := 72) C.1 C.2.1 dX5_told_1 (by omega) (by decide) ?_
            refine lv_aload_n C.1 C.2.1 dX5_told_72 rfl (lv_at hl 0 rfl) ?_
            refine gE_20_4 C G k_206 dX5_told_73 ?_
            exact r_iret C hr G hf dX5_told_76
set_option maxRecDepth 100000 in
set_option maxHeartbeats 4000000 in
theorem mX5_noMoreNew_20 (l : Launch) (D : va_G) (a : Nat → Nat) (cI cJ : ClassId) (tk : Nat) (tf : Nat → Int32) (S : St) (x : Int32 × St) (hf : fX5_noMoreNew_20 S = some x) : Mv l D (wE a cI cJ) a 25 cI cJ tk tf yX5_noMoreNew cX5_noMoreNew 1 { frames := 0, cells := 0, slots := 0, locals := 0 } [.ref (a 20)] S x := by
  refine opn_v (by decide +kernel) (Nat.le_of_ble_eq_true rfl) (fun p e s m below meth c C hr G ls hl => ?_)
  replace hl : lv_has ls 1 [(0, .ref (a 20))] := hl
  unfold fX5_noMoreNew_20 at hf
  refine lv_aload_n C.1 C.2.1 dX5_noMoreNew_0 rfl (lv_at hl 0 rfl) ?_
  refine lv_iconst (v := 0) C.1 C.2.1 dX5_noMoreNew_1 (by decide) ?_
  refine pE_20_5 C G (Or.inl rfl) k_207 dX5_noMoreNew_2 (fun H locs G => ?_)
  obtain ⟨S1, eS1, hf⟩ := stp_e hf
  rw [← eS1] at G
  clear eS1
  exact r_vret C hr G hf dX5_noMoreNew_5
set_option maxRecDepth 100000 in
set_option maxHeartbeats 4000000 in
theorem rX7_tell_0_51 {p : Program} {l : Launch} {e : Env} {s : State} {m : MethodId} {args : Array Value} {below : List Frame} {meth : Method} {c : Code} {D : va_G} {a : Nat → Nat} {cI cJ : ClassId} {tk : Nat} {tf : Nat → Int32} (C : Cx p s m args meth c RX7 cX7_tell 2 D cI cJ tk tf (AR a 25 s.heap.size)) (hr : meth.sig.returnType = (some .int)) : ∀ (S : St) (x : Int32 × St) (H : Heap) (locs : List Loc) (ls : Array Slot), fX7_tell_0_51 S = some x → Wd D (wE a cI cJ) (AR a 25 s.heap.size) s S H locs → lv_has ls 2 [] → W p l e { frames := 2, cells := 0, slots := 0, locals := 41 } s m args below meth c H locs 0 0 (MQ below (Qi D (wE a cI cJ) (AR a 25 s.heap.size) x) args s 0 0 (AR a 25 s.heap.size)) (F0 m 51 ls []) := by
  intro S x H locs ls hf G hl
  unfold fX7_tell_0_51 at hf
  refine lv_iconst (v := 0) C.1 C.2.1 dX7_tell_51 (by decide) ?_
  exact r_iret C hr G hf dX7_tell_52
set_option maxRecDepth 100000 in
set_option maxHeartbeats 4000000 in
theorem rX7_tell_0_28 {p : Program} {l : Launch} {e : Env} {s : State} {m : MethodId} {args : Array Value} {below : List Frame} {meth : Method} {c : Code} {D : va_G} {a : Nat → Nat} {cI cJ : ClassId} {tk : Nat} {tf : Nat → Int32} (C : Cx p s m args meth c RX7 cX7_tell 2 D cI cJ tk tf (AR a 25 s.heap.size)) (hr : meth.sig.returnType = (some .int)) : ∀ (q1 : Int32) (z1 : Int32) (z2 : Int32) (S : St) (x : Int32 × St) (H : Heap) (locs : List Loc) (ls : Array Slot), fX7_tell_0_28 q1 z1 z2 S = some x → Wd D (wE a cI cJ) (AR a 25 s.heap.size) s S H locs → lv_has ls 2 [(0, .ref (a 0)), (1, .int q1)] → W p l e { frames := 2, cells := 0, slots := 0, locals := 41 } s m args below meth c H locs 0 0 (MQ below (Qi D (wE a cI cJ) (AR a 25 s.heap.size) x) args s 0 0 (AR a 25 s.heap.size)) (F0 m 28 ls [.int z2, .int z1, .ref (a 5)]) := by
  intro q1 z1 z2 S x H locs ls hf G hl
  unfold fX7_tell_0_28 at hf
  refine lv_aload_n C.1 C.2.1 dX7_tell_28 rfl (lv_at hl 0 rfl) ?_
  refine gE_0_6 C G k_227 dX7_tell_29 ?_
  refine lv_iload_n C.1 C.2.1 dX7_tell_32 rfl (lv_at hl 1 rfl) ?_
  obtain ⟨r1, S1, eS1, hf⟩ := bnd_e hf
  refine r_cali (As := [.int q1]) (na := 1) C adE G (mX5_told_20 l D a cI cJ tk tf q1 S _ eS1) k_482 k_483 k_484 k_67 k_485 (q0 := 20) rfl (ci := 5) rfl (by decide +kernel) ⟨Nat.le_of_ble_eq_true rfl, Nat.le_of_ble_eq_true rfl⟩ rfl rfl ⟨Nat.zero_le _, Nat.zero_le _⟩ rfl hl.1 rfl (Nat.le_of_ble_eq_true rfl) dX7_tell_33 (fun H locs G => ?_)
  obtain ⟨r2, S2, eS2, hf⟩ := bnd_e hf
  refine r_calv (As := [.int z1, .int z2, .int r1]) (na := 3) C adE G (mX2_replace_5 l D a cI cJ tk tf z1 z2 r1 S1 _ eS2) k_487 k_406 k_407 k_62 k_408 (q0 := 5) rfl (ci := 2) rfl (by decide +kernel) ⟨Nat.le_of_ble_eq_true rfl, Nat.le_of_ble_eq_true rfl⟩ rfl rfl ⟨Nat.zero_le _, Nat.zero_le _⟩ rfl hl.1 rfl (Nat.le_of_ble_eq_true rfl) dX7_tell_36 (fun H locs G => ?_)
  refine lv_iload_n C.1 C.2.1 dX7_tell_39 rfl (lv_at hl 1 rfl) ?_
  refine lv_iconst (v := 2) C.1 C.2.1 dX7_tell_40 (by decide) ?_
  refine lv_icmp_ne (tgt := 51) C.1 C.2.1 dX7_tell_41 (by decide) (fun c3 => ?_) (fun c3 => ?_)
  · replace hf := ifq c3 hf
    exact rX7_tell_0_51 C hr S2 _ _ _ _ hf G (lv_sub hl [] rfl)
  · replace hf := ifp c3 hf
    refine lv_aload_n C.1 C.2.1 dX7_tell_44 rfl (lv_at hl 0 rfl) ?_
    refine gE_0_6 C G k_227 dX7_tell_45 ?_
    obtain ⟨r4, S4, eS4, hf⟩ := bnd_e hf
    refine r_calv (As := []) (na := 0) C adE G (mX5_noMoreNew_20 l D a cI cJ tk tf S2 _ eS4) k_488 k_489 k_490 k_67 k_491 (q0 := 20) rfl (ci := 5) rfl (by decide +kernel) ⟨Nat.le_of_ble_eq_true rfl, Nat.le_of_ble_eq_true rfl⟩ rfl rfl ⟨Nat.zero_le _, Nat.zero_le _⟩ rfl hl.1 rfl (Nat.le_of_ble_eq_true rfl) dX7_tell_48 (fun H locs G => ?_)
    exact rX7_tell_0_51 C hr S4 _ _ _ _ hf G (lv_sub hl [] rfl)
set_option maxRecDepth 100000 in
set_option maxHeartbeats 4000000 in
theorem mX7_tell_0 (l : Launch) (D : va_G) (a : Nat → Nat) (cI cJ : ClassId) (tk : Nat) (tf : Nat → Int32) (p1 : Int32) (S : St) (x : Int32 × St) (hf : fX7_tell_0 p1 S = some x) : Mi l D (wE a cI cJ) a 25 cI cJ tk tf yX7_tell cX7_tell 2 (some .int) { frames := 2, cells := 0, slots := 0, locals := 41 } [.ref (a 0), .int p1] S x := by
  refine opn_i (by decide +kernel) (Nat.le_of_ble_eq_true rfl) (fun p e s m below meth c C hr G ls hl => ?_)
  replace hl : lv_has ls 2 [(0, .ref (a 0)), (1, .int p1)] := hl
  unfold fX7_tell_0 at hf
  refine lv_aload_n C.1 C.2.1 dX7_tell_0 rfl (lv_at hl 0 rfl) ?_
  refine gE_0_6 C G k_227 dX7_tell_1 ?_
  refine lv_iload_n C.1 C.2.1 dX7_tell_4 rfl (lv_at hl 1 rfl) ?_
  obtain ⟨r1, S1, eS1, hf⟩ := bnd_e hf
  refine r_cali (As := [.int p1]) (na := 1) C adE G (mX5_has_20 l D a cI cJ tk tf p1 S _ eS1) k_478 k_479 k_480 k_67 k_481 (q0 := 20) rfl (ci := 5) rfl (by decide +kernel) ⟨Nat.le_of_ble_eq_true rfl, Nat.le_of_ble_eq_true rfl⟩ rfl rfl ⟨Nat.zero_le _, Nat.zero_le _⟩ rfl hl.1 rfl (Nat.le_of_ble_eq_true rfl) dX7_tell_5 (fun H locs G => ?_)
  refine lv_if_ne (tgt := 13) C.1 C.2.1 dX7_tell_8 (by decide) (fun c2 => ?_) (fun c2 => ?_)
  · replace hf := ifq c2 hf
    refine lv_aload_n C.1 C.2.1 dX7_tell_13 rfl (lv_at hl 0 rfl) ?_
    refine gE_0_2 C G k_223 dX7_tell_14 ?_
    refine lv_iconst (v := 1) C.1 C.2.1 dX7_tell_17 (by decide) ?_
    refine lv_iload_n C.1 C.2.1 dX7_tell_18 rfl (lv_at hl 1 rfl) ?_
    refine lv_iconst (v := 2) C.1 C.2.1 dX7_tell_19 (by decide) ?_
    refine lv_icmp_ne (tgt := 27) C.1 C.2.1 dX7_tell_20 (by decide) (fun c3 => ?_) (fun c3 => ?_)
    · replace hf := ifq c3 hf
      refine lv_iconst (v := 0) C.1 C.2.1 dX7_tell_27 (by decide) ?_
      exact rX7_tell_0_28 C hr p1 (1 : Int32) (0 : Int32) S1 _ _ _ _ hf G (lv_sub hl [0, 1] rfl)
    · replace hf := ifp c3 hf
      refine lv_iconst (v := 1) C.1 C.2.1 dX7_tell_23 (by decide) ?_
      refine lv_goto (tgt := 28) C.1 C.2.1 dX7_tell_24 (by decide) ?_
      exact rX7_tell_0_28 C hr p1 (1 : Int32) (1 : Int32) S1 _ _ _ _ hf G (lv_sub hl [0, 1] rfl)
  · replace hf := ifp c2 hf
    refine lv_iconst (v := 4) C.1 C.2.1 dX7_tell_11 (by decide) ?_
    exact r_iret C hr G hf dX7_tell_12
