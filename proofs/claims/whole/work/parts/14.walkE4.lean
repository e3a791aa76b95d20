theorem dX1_takes_0 : decode cX1_takes 0 = .ok (.iload_n 1, 1) := by decide +kernel
theorem dX1_takes_1 : decode cX1_takes 1 = .ok (.iconst 1, 1) := by decide +kernel
theorem dX1_takes_2 : decode cX1_takes 2 = .ok (.if_icmp .lt 19, 3) := by decide +kernel
theorem dX1_takes_5 : decode cX1_takes 5 = .ok (.iload_n 1, 1) := by decide +kernel
theorem dX1_takes_6 : decode cX1_takes 6 = .ok (.bipush 11, 2) := by decide +kernel
theorem dX1_takes_8 : decode cX1_takes 8 = .ok (.if_icmp .gt 13, 3) := by decide +kernel
theorem dX1_takes_11 : decode cX1_takes 11 = .ok (.iload_n 1, 1) := by decide +kernel
theorem dX1_takes_12 : decode cX1_takes 12 = .ok (.bipush 10, 2) := by decide +kernel
theorem dX1_takes_14 : decode cX1_takes 14 = .ok (.if_icmp .eq 7, 3) := by decide +kernel
theorem dX1_takes_17 : decode cX1_takes 17 = .ok (.iconst 1, 1) := by decide +kernel
theorem dX1_takes_18 : decode cX1_takes 18 = .ok (.goto 4, 3) := by decide +kernel
theorem dX1_takes_21 : decode cX1_takes 21 = .ok (.iconst 0, 1) := by decide +kernel
theorem dX1_takes_22 : decode cX1_takes 22 = .ok (.ireturn, 1) := by decide +kernel
theorem dX7_raise_0 : decode cX7_raise 0 = .ok (.aload_n 0, 1) := by decide +kernel
theorem dX7_raise_1 : decode cX7_raise 1 = .ok (.getfield 40, 3) := by decide +kernel
theorem dX7_raise_4 : decode cX7_raise 4 = .ok (.iload_n 1, 1) := by decide +kernel
theorem dX7_raise_5 : decode cX7_raise 5 = .ok (.invokevirtual 290, 3) := by decide +kernel
theorem dX7_raise_8 : decode cX7_raise 8 = .ok (.ifCond .eq 7, 3) := by decide +kernel
theorem dX7_raise_11 : decode cX7_raise 11 = .ok (.iload_n 1, 1) := by decide +kernel
theorem dX7_raise_12 : decode cX7_raise 12 = .ok (.goto 4, 3) := by decide +kernel
theorem dX7_raise_15 : decode cX7_raise 15 = .ok (.iconst 4, 1) := by decide +kernel
theorem dX7_raise_16 : decode cX7_raise 16 = .ok (.ireturn, 1) := by decide +kernel
theorem dX1_set_0 : decode cX1_set 0 = .ok (.aload_n 0, 1) := by decide +kernel
theorem dX1_set_1 : decode cX1_set 1 = .ok (.iload_n 1, 1) := by decide +kernel
theorem dX1_set_2 : decode cX1_set 2 = .ok (.invokevirtual 21, 3) := by decide +kernel
theorem dX1_set_5 : decode cX1_set 5 = .ok (.ifCond .eq 10, 3) := by decide +kernel
theorem dX1_set_8 : decode cX1_set 8 = .ok (.aload_n 0, 1) := by decide +kernel
theorem dX1_set_9 : decode cX1_set 9 = .ok (.getfield 9, 3) := by decide +kernel
theorem dX1_set_12 : decode cX1_set 12 = .ok (.iload_n 1, 1) := by decide +kernel
theorem dX1_set_13 : decode cX1_set 13 = .ok (.iload_n 2, 1) := by decide +kernel
theorem dX1_set_14 : decode cX1_set 14 = .ok (.iastore, 1) := by decide +kernel
theorem dX1_set_15 : decode cX1_set 15 = .ok (.return_, 1) := by decide +kernel
theorem dX7_setHandler_0 : decode cX7_setHandler 0 = .ok (.aload_n 0, 1) := by decide +kernel
theorem dX7_setHandler_1 : decode cX7_setHandler 1 = .ok (.getfield 27, 3) := by decide +kernel
theorem dX7_setHandler_4 : decode cX7_setHandler 4 = .ok (.iconst 0, 1) := by decide +kernel
theorem dX7_setHandler_5 : decode cX7_setHandler 5 = .ok (.invokevirtual 237, 3) := by decide +kernel
theorem dX7_setHandler_8 : decode cX7_setHandler 8 = .ok (.istore_n 1, 1) := by decide +kernel
theorem dX7_setHandler_9 : decode cX7_setHandler 9 = .ok (.aload_n 0, 1) := by decide +kernel
theorem dX7_setHandler_10 : decode cX7_setHandler 10 = .ok (.getfield 27, 3) := by decide +kernel
theorem dX7_setHandler_13 : decode cX7_setHandler 13 = .ok (.iconst 0, 1) := by decide +kernel
theorem dX7_setHandler_14 : decode cX7_setHandler 14 = .ok (.invokevirtual 249, 3) := by decide +kernel
theorem dX7_setHandler_17 : decode cX7_setHandler 17 = .ok (.istore_n 2, 1) := by decide +kernel
theorem dX7_setHandler_18 : decode cX7_setHandler 18 = .ok (.aload_n 0, 1) := by decide +kernel
theorem dX7_setHandler_19 : decode cX7_setHandler 19 = .ok (.getfield 27, 3) := by decide +kernel
theorem dX7_setHandler_22 : decode cX7_setHandler 22 = .ok (.iconst 1, 1) := by decide +kernel
theorem dX7_setHandler_23 : decode cX7_setHandler 23 = .ok (.invokevirtual 249, 3) := by decide +kernel
theorem dX7_setHandler_26 : decode cX7_setHandler 26 = .ok (.istore_n 3, 1) := by decide +kernel
theorem dX7_setHandler_27 : decode cX7_setHandler 27 = .ok (.iload_n 1, 1) := by decide +kernel
theorem dX7_setHandler_28 : decode cX7_setHandler 28 = .ok (.iconst 4, 1) := by decide +kernel
theorem dX7_setHandler_29 : decode cX7_setHandler 29 = .ok (.if_icmp .eq 9, 3) := by decide +kernel
theorem dX7_setHandler_32 : decode cX7_setHandler 32 = .ok (.iload_n 1, 1) := by decide +kernel
theorem dX7_setHandler_33 : decode cX7_setHandler 33 = .ok (.ifCond .eq 5, 3) := by decide +kernel
theorem dX7_setHandler_36 : decode cX7_setHandler 36 = .ok (.iconst 3, 1) := by decide +kernel
theorem dX7_setHandler_37 : decode cX7_setHandler 37 = .ok (.ireturn, 1) := by decide +kernel
theorem dX7_setHandler_38 : decode cX7_setHandler 38 = .ok (.aload_n 0, 1) := by decide +kernel
theorem dX7_setHandler_39 : decode cX7_setHandler 39 = .ok (.getfield 40, 3) := by decide +kernel
theorem dX7_setHandler_42 : decode cX7_setHandler 42 = .ok (.iload_n 3, 1) := by decide +kernel
theorem dX7_setHandler_43 : decode cX7_setHandler 43 = .ok (.invokevirtual 290, 3) := by decide +kernel
theorem dX7_setHandler_46 : decode cX7_setHandler 46 = .ok (.ifCond .eq 12, 3) := by decide +kernel
theorem dX7_setHandler_49 : decode cX7_setHandler 49 = .ok (.iload_n 1, 1) := by decide +kernel
theorem dX7_setHandler_50 : decode cX7_setHandler 50 = .ok (.ifCond .ne 10, 3) := by decide +kernel
theorem dX7_setHandler_53 : decode cX7_setHandler 53 = .ok (.iload_n 2, 1) := by decide +kernel
theorem dX7_setHandler_54 : decode cX7_setHandler 54 = .ok (.iconst (-1), 1) := by decide +kernel
theorem dX7_setHandler_55 : decode cX7_setHandler 55 = .ok (.if_icmp .eq 5, 3) := by decide +kernel
theorem dX7_setHandler_58 : decode cX7_setHandler 58 = .ok (.iconst 4, 1) := by decide +kernel
theorem dX7_setHandler_59 : decode cX7_setHandler 59 = .ok (.ireturn, 1) := by decide +kernel
theorem dX7_setHandler_60 : decode cX7_setHandler 60 = .ok (.aload_n 0, 1) := by decide +kernel
theorem dX7_setHandler_61 : decode cX7_setHandler 61 = .ok (.getfield 40, 3) := by decide +kernel
theorem dX7_setHandler_64 : decode cX7_setHandler 64 = .ok (.iload_n 3, 1) := by decide +kernel
theorem dX7_setHandler_65 : decode cX7_setHandler 65 = .ok (.iload_n 2, 1) := by decide +kernel
theorem dX7_setHandler_66 : decode cX7_setHandler 66 = .ok (.invokevirtual 293, 3) := by decide +kernel
theorem dX7_setHandler_69 : decode cX7_setHandler 69 = .ok (.aload_n 0, 1) := by decide +kernel
theorem dX7_setHandler_70 : decode cX7_setHandler 70 = .ok (.getfield 27, 3) := by decide +kernel
theorem dX7_setHandler_73 : decode cX7_setHandler 73 = .ok (.iconst 2, 1) := by decide +kernel
theorem dX7_setHandler_74 : decode cX7_setHandler 74 = .ok (.invokevirtual 86, 3) := by decide +kernel
theorem dX7_setHandler_77 : decode cX7_setHandler 77 = .ok (.iconst 0, 1) := by decide +kernel
theorem dX7_setHandler_78 : decode cX7_setHandler 78 = .ok (.ireturn, 1) := by decide +kernel
theorem dX7_guard_0 : decode cX7_guard 0 = .ok (.aload_n 0, 1) := by decide +kernel
theorem dX7_guard_1 : decode cX7_guard 1 = .ok (.getfield 47, 3) := by decide +kernel
theorem dX7_guard_4 : decode cX7_guard 4 = .ok (.iconst 2, 1) := by decide +kernel
theorem dX7_guard_5 : decode cX7_guard 5 = .ok (.invokevirtual 205, 3) := by decide +kernel
theorem dX7_guard_8 : decode cX7_guard 8 = .ok (.ifCond .ne 6, 3) := by decide +kernel
theorem dX7_guard_11 : decode cX7_guard 11 = .ok (.bipush 8, 2) := by decide +kernel
theorem dX7_guard_13 : decode cX7_guard 13 = .ok (.ireturn, 1) := by decide +kernel
theorem dX7_guard_14 : decode cX7_guard 14 = .ok (.aload_n 0, 1) := by decide +kernel
theorem dX7_guard_15 : decode cX7_guard 15 = .ok (.getfield 47, 3) := by decide +kernel
theorem dX7_guard_18 : decode cX7_guard 18 = .ok (.iconst 3, 1) := by decide +kernel
theorem dX7_guard_19 : decode cX7_guard 19 = .ok (.iconst 0, 1) := by decide +kernel
theorem dX7_guard_20 : decode cX7_guard 20 = .ok (.invokevirtual 217, 3) := by decide +kernel
theorem dX7_guard_23 : decode cX7_guard 23 = .ok (.aload_n 0, 1) := by decide +kernel
theorem dX7_guard_24 : decode cX7_guard 24 = .ok (.getfield 47, 3) := by decide +kernel
theorem dX7_guard_27 : decode cX7_guard 27 = .ok (.iconst 0, 1) := by decide +kernel
theorem dX7_guard_28 : decode cX7_guard 28 = .ok (.aload_n 0, 1) := by decide +kernel
theorem dX7_guard_29 : decode cX7_guard 29 = .ok (.getfield 27, 3) := by decide +kernel
theorem dX7_guard_32 : decode cX7_guard 32 = .ok (.iconst 0, 1) := by decide +kernel
theorem dX7_guard_33 : decode cX7_guard 33 = .ok (.invokevirtual 249, 3) := by decide +kernel
theorem dX7_guard_36 : decode cX7_guard 36 = .ok (.invokevirtual 217, 3) := by decide +kernel
theorem dX7_guard_39 : decode cX7_guard 39 = .ok (.aload_n 0, 1) := by decide +kernel
theorem dX7_guard_40 : decode cX7_guard 40 = .ok (.getfield 27, 3) := by decide +kernel
theorem dX7_guard_43 : decode cX7_guard 43 = .ok (.iconst 1, 1) := by decide +kernel
theorem dX7_guard_44 : decode cX7_guard 44 = .ok (.invokevirtual 86, 3) := by decide +kernel
theorem dX7_guard_47 : decode cX7_guard 47 = .ok (.iconst 0, 1) := by decide +kernel
theorem dX7_guard_48 : decode cX7_guard 48 = .ok (.ireturn, 1) := by decide +kernel
theorem dX0_loopToExit_0 : decode cX0_loopToExit 0 = .ok (.aload_n 0, 1) := by decide +kernel
theorem dX0_loopToExit_1 : decode cX0_loopToExit 1 = .ok (.getfield 31, 3) := by decide +kernel
theorem dX0_loopToExit_4 : decode cX0_loopToExit 4 = .ok (.iconst 1, 1) := by decide +kernel
theorem dX0_loopToExit_5 : decode cX0_loopToExit 5 = .ok (.isub, 1) := by decide +kernel
theorem dX0_loopToExit_6 : decode cX0_loopToExit 6 = .ok (.istore_n 1, 1) := by decide +kernel
theorem dX0_loopToExit_7 : decode cX0_loopToExit 7 = .ok (.iload_n 1, 1) := by decide +kernel
theorem dX0_loopToExit_8 : decode cX0_loopToExit 8 = .ok (.ifCond .lt 51, 3) := by decide +kernel
theorem dX0_loopToExit_11 : decode cX0_loopToExit 11 = .ok (.aload_n 0, 1) := by decide +kernel
theorem dX0_loopToExit_12 : decode cX0_loopToExit 12 = .ok (.getfield 9, 3) := by decide +kernel
theorem dX0_loopToExit_15 : decode cX0_loopToExit 15 = .ok (.iload_n 1, 1) := by decide +kernel
theorem dX0_loopToExit_16 : decode cX0_loopToExit 16 = .ok (.iaload, 1) := by decide +kernel
theorem dX0_loopToExit_17 : decode cX0_loopToExit 17 = .ok (.iconst 3, 1) := by decide +kernel
theorem dX0_loopToExit_18 : decode cX0_loopToExit 18 = .ok (.if_icmp .eq 41, 3) := by decide +kernel
theorem dX0_loopToExit_21 : decode cX0_loopToExit 21 = .ok (.aload_n 0, 1) := by decide +kernel
theorem dX0_loopToExit_22 : decode cX0_loopToExit 22 = .ok (.getfield 9, 3) := by decide +kernel
theorem dX0_loopToExit_25 : decode cX0_loopToExit 25 = .ok (.iload_n 1, 1) := by decide +kernel
theorem dX0_loopToExit_26 : decode cX0_loopToExit 26 = .ok (.iaload, 1) := by decide +kernel
theorem dX0_loopToExit_27 : decode cX0_loopToExit 27 = .ok (.iconst 4, 1) := by decide +kernel
theorem dX0_loopToExit_28 : decode cX0_loopToExit 28 = .ok (.if_icmp .eq 31, 3) := by decide +kernel
theorem dX0_loopToExit_31 : decode cX0_loopToExit 31 = .ok (.aload_n 0, 1) := by decide +kernel
theorem dX0_loopToExit_32 : decode cX0_loopToExit 32 = .ok (.getfield 9, 3) := by decide +kernel
theorem dX0_loopToExit_35 : decode cX0_loopToExit 35 = .ok (.iload_n 1, 1) := by decide +kernel
theorem dX0_loopToExit_36 : decode cX0_loopToExit 36 = .ok (.iaload, 1) := by decide +kernel
theorem dX0_loopToExit_37 : decode cX0_loopToExit 37 = .ok (.iconst 1, 1) := by decide +kernel
theorem dX0_loopToExit_38 : decode cX0_loopToExit 38 = .ok (.if_icmp .eq 13, 3) := by decide +kernel
theorem dX0_loopToExit_41 : decode cX0_loopToExit 41 = .ok (.aload_n 0, 1) := by decide +kernel
theorem dX0_loopToExit_42 : decode cX0_loopToExit 42 = .ok (.getfield 9, 3) := by decide +kernel
theorem dX0_loopToExit_45 : decode cX0_loopToExit 45 = .ok (.iload_n 1, 1) := by decide +kernel
theorem dX0_loopToExit_46 : decode cX0_loopToExit 46 = .ok (.iaload, 1) := by decide +kernel
theorem dX0_loopToExit_47 : decode cX0_loopToExit 47 = .ok (.iconst 2, 1) := by decide +kernel
theorem dX0_loopToExit_48 : decode cX0_loopToExit 48 = .ok (.if_icmp .ne 5, 3) := by decide +kernel
theorem dX0_loopToExit_51 : decode cX0_loopToExit 51 = .ok (.iload_n 1, 1) := by decide +kernel
theorem dX0_loopToExit_52 : decode cX0_loopToExit 52 = .ok (.ireturn, 1) := by decide +kernel
theorem dX0_loopToExit_53 : decode cX0_loopToExit 53 = .ok (.iinc 1 (-1), 3) := by decide +kernel
theorem dX0_loopToExit_56 : decode cX0_loopToExit 56 = .ok (.goto (-49), 3) := by decide +kernel
theorem dX0_loopToExit_59 : decode cX0_loopToExit 59 = .ok (.iconst (-1), 1) := by decide +kernel
theorem dX0_loopToExit_60 : decode cX0_loopToExit 60 = .ok (.ireturn, 1) := by decide +kernel
theorem dX7_exitLoop_0 : decode cX7_exitLoop 0 = .ok (.aload_n 0, 1) := by decide +kernel
theorem dX7_exitLoop_1 : decode cX7_exitLoop 1 = .ok (.getfield 47, 3) := by decide +kernel
theorem dX7_exitLoop_4 : decode cX7_exitLoop 4 = .ok (.invokevirtual 287, 3) := by decide +kernel
theorem dX7_exitLoop_7 : decode cX7_exitLoop 7 = .ok (.istore_n 1, 1) := by decide +kernel
theorem dX7_exitLoop_8 : decode cX7_exitLoop 8 = .ok (.iload_n 1, 1) := by decide +kernel
theorem dX7_exitLoop_9 : decode cX7_exitLoop 9 = .ok (.iconst (-1), 1) := by decide +kernel
theorem dX7_exitLoop_10 : decode cX7_exitLoop 10 = .ok (.if_icmp .ne 6, 3) := by decide +kernel
theorem dX7_exitLoop_13 : decode cX7_exitLoop 13 = .ok (.bipush 9, 2) := by decide +kernel
theorem dX7_exitLoop_15 : decode cX7_exitLoop 15 = .ok (.ireturn, 1) := by decide +kernel
theorem dX7_exitLoop_16 : decode cX7_exitLoop 16 = .ok (.aload_n 0, 1) := by decide +kernel
theorem dX7_exitLoop_17 : decode cX7_exitLoop 17 = .ok (.getfield 47, 3) := by decide +kernel
theorem dX7_exitLoop_20 : decode cX7_exitLoop 20 = .ok (.iload_n 1, 1) := by decide +kernel
theorem dX7_exitLoop_21 : decode cX7_exitLoop 21 = .ok (.invokevirtual 107, 3) := by decide +kernel
theorem dX7_exitLoop_24 : decode cX7_exitLoop 24 = .ok (.iconst 0, 1) := by decide +kernel
theorem dX7_exitLoop_25 : decode cX7_exitLoop 25 = .ok (.ireturn, 1) := by decide +kernel
theorem dX0_countBy_0 : decode cX0_countBy 0 = .ok (.aload_n 0, 1) := by decide +kernel
theorem dX0_countBy_1 : decode cX0_countBy 1 = .ok (.getfield 31, 3) := by decide +kernel
theorem dX0_countBy_4 : decode cX0_countBy 4 = .ok (.ifCond .le 40, 3) := by decide +kernel
theorem dX0_countBy_7 : decode cX0_countBy 7 = .ok (.aload_n 0, 1) := by decide +kernel
theorem dX0_countBy_8 : decode cX0_countBy 8 = .ok (.getfield 21, 3) := by decide +kernel
theorem dX0_countBy_11 : decode cX0_countBy 11 = .ok (.aload_n 0, 1) := by decide +kernel
theorem dX0_countBy_12 : decode cX0_countBy 12 = .ok (.getfield 31, 3) := by decide +kernel
theorem dX0_countBy_15 : decode cX0_countBy 15 = .ok (.iconst 1, 1) := by decide +kernel
theorem dX0_countBy_16 : decode cX0_countBy 16 = .ok (.isub, 1) := by decide +kernel
theorem dX0_countBy_17 : decode cX0_countBy 17 = .ok (.iload_n 1, 1) := by decide +kernel
theorem dX0_countBy_18 : decode cX0_countBy 18 = .ok (.i2l, 1) := by decide +kernel
theorem dX0_countBy_19 : decode cX0_countBy 19 = .ok (.lastore, 1) := by decide +kernel
theorem dX0_countBy_20 : decode cX0_countBy 20 = .ok (.aload_n 0, 1) := by decide +kernel
theorem dX0_countBy_21 : decode cX0_countBy 21 = .ok (.getfield 25, 3) := by decide +kernel
theorem dX0_countBy_24 : decode cX0_countBy 24 = .ok (.aload_n 0, 1) := by decide +kernel
theorem dX0_countBy_25 : decode cX0_countBy 25 = .ok (.getfield 31, 3) := by decide +kernel
theorem dX0_countBy_28 : decode cX0_countBy 28 = .ok (.iconst 1, 1) := by decide +kernel
theorem dX0_countBy_29 : decode cX0_countBy 29 = .ok (.isub, 1) := by decide +kernel
theorem dX0_countBy_30 : decode cX0_countBy 30 = .ok (.iload_n 2, 1) := by decide +kernel
theorem dX0_countBy_31 : decode cX0_countBy 31 = .ok (.iastore, 1) := by decide +kernel
theorem dX0_countBy_32 : decode cX0_countBy 32 = .ok (.aload_n 0, 1) := by decide +kernel
theorem dX0_countBy_33 : decode cX0_countBy 33 = .ok (.getfield 28, 3) := by decide +kernel
theorem dX0_countBy_36 : decode cX0_countBy 36 = .ok (.aload_n 0, 1) := by decide +kernel
theorem dX0_countBy_37 : decode cX0_countBy 37 = .ok (.getfield 31, 3) := by decide +kernel
theorem dX0_countBy_40 : decode cX0_countBy 40 = .ok (.iconst 1, 1) := by decide +kernel
theorem dX0_countBy_41 : decode cX0_countBy 41 = .ok (.isub, 1) := by decide +kernel
theorem dX0_countBy_42 : decode cX0_countBy 42 = .ok (.iload_n 3, 1) := by decide +kernel
theorem dX0_countBy_43 : decode cX0_countBy 43 = .ok (.iastore, 1) := by decide +kernel
theorem dX0_countBy_44 : decode cX0_countBy 44 = .ok (.return_, 1) := by decide +kernel
theorem dX7_beginLoop_0 : decode cX7_beginLoop 0 = .ok (.aload_n 0, 1) := by decide +kernel
theorem dX7_beginLoop_1 : decode cX7_beginLoop 1 = .ok (.getfield 47, 3) := by decide +kernel
theorem dX7_beginLoop_4 : decode cX7_beginLoop 4 = .ok (.iconst 1, 1) := by decide +kernel
theorem dX7_beginLoop_5 : decode cX7_beginLoop 5 = .ok (.invokevirtual 205, 3) := by decide +kernel
theorem dX7_beginLoop_8 : decode cX7_beginLoop 8 = .ok (.ifCond .ne 6, 3) := by decide +kernel
theorem dX7_beginLoop_11 : decode cX7_beginLoop 11 = .ok (.bipush 8, 2) := by decide +kernel
theorem dX7_beginLoop_13 : decode cX7_beginLoop 13 = .ok (.ireturn, 1) := by decide +kernel
theorem dX7_beginLoop_14 : decode cX7_beginLoop 14 = .ok (.aload_n 0, 1) := by decide +kernel
theorem dX7_beginLoop_15 : decode cX7_beginLoop 15 = .ok (.getfield 47, 3) := by decide +kernel
theorem dX7_beginLoop_18 : decode cX7_beginLoop 18 = .ok (.iload_n 1, 1) := by decide +kernel
theorem dX7_beginLoop_19 : decode cX7_beginLoop 19 = .ok (.aload_n 0, 1) := by decide +kernel
theorem dX7_beginLoop_20 : decode cX7_beginLoop 20 = .ok (.getfield 27, 3) := by decide +kernel
theorem dX7_beginLoop_23 : decode cX7_beginLoop 23 = .ok (.iconst 0, 1) := by decide +kernel
theorem dX7_beginLoop_24 : decode cX7_beginLoop 24 = .ok (.invokevirtual 249, 3) := by decide +kernel
theorem dX7_beginLoop_27 : decode cX7_beginLoop 27 = .ok (.invokevirtual 217, 3) := by decide +kernel
theorem dX7_beginLoop_30 : decode cX7_beginLoop 30 = .ok (.aload_n 0, 1) := by decide +kernel
theorem dX7_beginLoop_31 : decode cX7_beginLoop 31 = .ok (.getfield 47, 3) := by decide +kernel
theorem dX7_beginLoop_34 : decode cX7_beginLoop 34 = .ok (.iload_n 2, 1) := by decide +kernel
theorem dX7_beginLoop_35 : decode cX7_beginLoop 35 = .ok (.iload_n 3, 1) := by decide +kernel
theorem dX7_beginLoop_36 : decode cX7_beginLoop 36 = .ok (.iload 4, 2) := by decide +kernel
theorem dX7_beginLoop_38 : decode cX7_beginLoop 38 = .ok (.invokevirtual 283, 3) := by decide +kernel
theorem dX7_beginLoop_41 : decode cX7_beginLoop 41 = .ok (.aload_n 0, 1) := by decide +kernel
theorem dX7_beginLoop_42 : decode cX7_beginLoop 42 = .ok (.getfield 27, 3) := by decide +kernel
theorem dX7_beginLoop_45 : decode cX7_beginLoop 45 = .ok (.iload 5, 2) := by decide +kernel
theorem dX7_beginLoop_47 : decode cX7_beginLoop 47 = .ok (.invokevirtual 86, 3) := by decide +kernel
theorem dX7_beginLoop_50 : decode cX7_beginLoop 50 = .ok (.iconst 0, 1) := by decide +kernel
theorem dX7_beginLoop_51 : decode cX7_beginLoop 51 = .ok (.ireturn, 1) := by decide +kernel
theorem dX7_countThrough_0 : decode cX7_countThrough 0 = .ok (.iload_n 2, 1) := by decide +kernel
theorem dX7_countThrough_1 : decode cX7_countThrough 1 = .ok (.ifCond .ne 7, 3) := by decide +kernel
theorem dX7_countThrough_4 : decode cX7_countThrough 4 = .ok (.iconst 4, 1) := by decide +kernel
theorem dX7_countThrough_5 : decode cX7_countThrough 5 = .ok (.goto 12, 3) := by decide +kernel
theorem dX7_countThrough_8 : decode cX7_countThrough 8 = .ok (.aload_n 0, 1) := by decide +kernel
theorem dX7_countThrough_9 : decode cX7_countThrough 9 = .ok (.iconst 2, 1) := by decide +kernel
theorem dX7_countThrough_10 : decode cX7_countThrough 10 = .ok (.iload_n 1, 1) := by decide +kernel
theorem dX7_countThrough_11 : decode cX7_countThrough 11 = .ok (.iload_n 2, 1) := by decide +kernel
theorem dX7_countThrough_12 : decode cX7_countThrough 12 = .ok (.iload_n 3, 1) := by decide +kernel
theorem dX7_countThrough_13 : decode cX7_countThrough 13 = .ok (.iconst 4, 1) := by decide +kernel
theorem dX7_countThrough_14 : decode cX7_countThrough 14 = .ok (.invokevirtual 261, 3) := by decide +kernel
theorem dX7_countThrough_17 : decode cX7_countThrough 17 = .ok (.ireturn, 1) := by decide +kernel
theorem dX7_repeat_0 : decode cX7_repeat 0 = .ok (.iload_n 1, 1) := by decide +kernel
theorem dX7_repeat_1 : decode cX7_repeat 1 = .ok (.ifCond .ge 7, 3) := by decide +kernel
theorem dX7_repeat_4 : decode cX7_repeat 4 = .ok (.iconst 4, 1) := by decide +kernel
theorem dX7_repeat_5 : decode cX7_repeat 5 = .ok (.goto 12, 3) := by decide +kernel
theorem dX7_repeat_8 : decode cX7_repeat 8 = .ok (.aload_n 0, 1) := by decide +kernel
theorem dX7_repeat_9 : decode cX7_repeat 9 = .ok (.iconst 1, 1) := by decide +kernel
theorem dX7_repeat_10 : decode cX7_repeat 10 = .ok (.iconst 1, 1) := by decide +kernel
theorem dX7_repeat_11 : decode cX7_repeat 11 = .ok (.iconst 1, 1) := by decide +kernel
theorem dX7_repeat_12 : decode cX7_repeat 12 = .ok (.iload_n 1, 1) := by decide +kernel
theorem dX7_repeat_13 : decode cX7_repeat 13 = .ok (.iconst 2, 1) := by decide +kernel
theorem dX7_repeat_14 : decode cX7_repeat 14 = .ok (.invokevirtual 261, 3) := by decide +kernel
theorem dX7_repeat_17 : decode cX7_repeat 17 = .ok (.ireturn, 1) := by decide +kernel
theorem dX7_begin_0 : decode cX7_begin 0 = .ok (.aload_n 0, 1) := by decide +kernel
theorem dX7_begin_1 : decode cX7_begin 1 = .ok (.getfield 47, 3) := by decide +kernel
theorem dX7_begin_4 : decode cX7_begin 4 = .ok (.invokevirtual 165, 3) := by decide +kernel
theorem dX7_begin_7 : decode cX7_begin 7 = .ok (.ifCond .ne 31, 3) := by decide +kernel
theorem dX7_begin_10 : decode cX7_begin 10 = .ok (.aload_n 0, 1) := by decide +kernel
theorem dX7_begin_11 : decode cX7_begin 11 = .ok (.getfield 47, 3) := by decide +kernel
theorem dX7_begin_14 : decode cX7_begin 14 = .ok (.invokevirtual 183, 3) := by decide +kernel
theorem dX7_begin_17 : decode cX7_begin 17 = .ok (.aload_n 0, 1) := by decide +kernel
theorem dX7_begin_18 : decode cX7_begin 18 = .ok (.getfield 10, 3) := by decide +kernel
theorem dX7_begin_21 : decode cX7_begin 21 = .ok (.aload_n 0, 1) := by decide +kernel
theorem dX7_begin_22 : decode cX7_begin 22 = .ok (.getfield 47, 3) := by decide +kernel
theorem dX7_begin_25 : decode cX7_begin 25 = .ok (.invokevirtual 180, 3) := by decide +kernel
theorem dX7_begin_28 : decode cX7_begin 28 = .ok (.invokevirtual 66, 3) := by decide +kernel
theorem dX7_begin_31 : decode cX7_begin 31 = .ok (.if_icmp .lt 7, 3) := by decide +kernel
theorem dX7_begin_34 : decode cX7_begin 34 = .ok (.iconst 1, 1) := by decide +kernel
theorem dX7_begin_35 : decode cX7_begin 35 = .ok (.goto 4, 3) := by decide +kernel
theorem dX7_begin_38 : decode cX7_begin 38 = .ok (.iconst 0, 1) := by decide +kernel
theorem dX7_begin_39 : decode cX7_begin 39 = .ok (.istore_n 3, 1) := by decide +kernel
theorem dX7_begin_40 : decode cX7_begin 40 = .ok (.iload_n 3, 1) := by decide +kernel
theorem dX7_begin_41 : decode cX7_begin 41 = .ok (.ifCond .eq 13, 3) := by decide +kernel
theorem dX7_begin_44 : decode cX7_begin 44 = .ok (.aload_n 0, 1) := by decide +kernel
theorem dX7_begin_45 : decode cX7_begin 45 = .ok (.getfield 47, 3) := by decide +kernel
theorem dX7_begin_48 : decode cX7_begin 48 = .ok (.invokevirtual 177, 3) := by decide +kernel
theorem dX7_begin_51 : decode cX7_begin 51 = .ok (.goto 17, 3) := by decide +kernel
theorem dX7_begin_54 : decode cX7_begin 54 = .ok (.aload_n 0, 1) := by decide +kernel
theorem dX7_begin_55 : decode cX7_begin 55 = .ok (.getfield 47, 3) := by decide +kernel
theorem dX7_begin_58 : decode cX7_begin 58 = .ok (.iconst 1, 1) := by decide +kernel
theorem dX7_begin_59 : decode cX7_begin 59 = .ok (.invokevirtual 205, 3) := by decide +kernel
theorem dX7_begin_62 : decode cX7_begin 62 = .ok (.ifCond .ne 6, 3) := by decide +kernel
theorem dX7_begin_65 : decode cX7_begin 65 = .ok (.bipush 8, 2) := by decide +kernel
theorem dX7_begin_67 : decode cX7_begin 67 = .ok (.ireturn, 1) := by decide +kernel
theorem dX7_begin_68 : decode cX7_begin 68 = .ok (.aload_n 0, 1) := by decide +kernel
theorem dX7_begin_69 : decode cX7_begin 69 = .ok (.getfield 27, 3) := by decide +kernel
theorem dX7_begin_72 : decode cX7_begin 72 = .ok (.iload_n 2, 1) := by decide +kernel
theorem dX7_begin_73 : decode cX7_begin 73 = .ok (.invokevirtual 86, 3) := by decide +kernel
theorem dX7_begin_76 : decode cX7_begin 76 = .ok (.aload_n 0, 1) := by decide +kernel
theorem dX7_begin_77 : decode cX7_begin 77 = .ok (.getfield 47, 3) := by decide +kernel
theorem dX7_begin_80 : decode cX7_begin 80 = .ok (.iconst 0, 1) := by decide +kernel
theorem dX7_begin_81 : decode cX7_begin 81 = .ok (.iload_n 1, 1) := by decide +kernel
theorem dX7_begin_82 : decode cX7_begin 82 = .ok (.invokevirtual 217, 3) := by decide +kernel
theorem dX7_begin_85 : decode cX7_begin 85 = .ok (.iconst 0, 1) := by decide +kernel
theorem dX7_begin_86 : decode cX7_begin 86 = .ok (.ireturn, 1) := by decide +kernel
theorem dX7_beginIf_0 : decode cX7_beginIf 0 = .ok (.aload_n 0, 1) := by decide +kernel
theorem dX7_beginIf_1 : decode cX7_beginIf 1 = .ok (.getfield 27, 3) := by decide +kernel
theorem dX7_beginIf_4 : decode cX7_beginIf 4 = .ok (.iconst 1, 1) := by decide +kernel
theorem dX7_beginIf_5 : decode cX7_beginIf 5 = .ok (.invokevirtual 249, 3) := by decide +kernel
theorem dX7_beginIf_8 : decode cX7_beginIf 8 = .ok (.iconst 1, 1) := by decide +kernel
theorem dX7_beginIf_9 : decode cX7_beginIf 9 = .ok (.if_icmp .ne 17, 3) := by decide +kernel
theorem dX7_beginIf_12 : decode cX7_beginIf 12 = .ok (.aload_n 0, 1) := by decide +kernel
theorem dX7_beginIf_13 : decode cX7_beginIf 13 = .ok (.aload_n 0, 1) := by decide +kernel
theorem dX7_beginIf_14 : decode cX7_beginIf 14 = .ok (.getfield 27, 3) := by decide +kernel
theorem dX7_beginIf_17 : decode cX7_beginIf 17 = .ok (.iconst 0, 1) := by decide +kernel
theorem dX7_beginIf_18 : decode cX7_beginIf 18 = .ok (.invokevirtual 249, 3) := by decide +kernel
theorem dX7_beginIf_21 : decode cX7_beginIf 21 = .ok (.iconst 2, 1) := by decide +kernel
theorem dX7_beginIf_22 : decode cX7_beginIf 22 = .ok (.invokevirtual 252, 3) := by decide +kernel
theorem dX7_beginIf_25 : decode cX7_beginIf 25 = .ok (.ireturn, 1) := by decide +kernel
theorem dX7_beginIf_26 : decode cX7_beginIf 26 = .ok (.aload_n 0, 1) := by decide +kernel
theorem dX7_beginIf_27 : decode cX7_beginIf 27 = .ok (.getfield 27, 3) := by decide +kernel
theorem dX7_beginIf_30 : decode cX7_beginIf 30 = .ok (.iconst 2, 1) := by decide +kernel
theorem dX7_beginIf_31 : decode cX7_beginIf 31 = .ok (.invokevirtual 86, 3) := by decide +kernel
theorem dX7_beginIf_34 : decode cX7_beginIf 34 = .ok (.iconst 0, 1) := by decide +kernel
theorem dX7_beginIf_35 : decode cX7_beginIf 35 = .ok (.ireturn, 1) := by decide +kernel
theorem dX7_execute_0 : decode cX7_execute 0 = .ok (.aload_n 0, 1) := by decide +kernel
theorem dX7_execute_1 : decode cX7_execute 1 = .ok (.getfield 27, 3) := by decide +kernel
theorem dX7_execute_4 : decode cX7_execute 4 = .ok (.iconst 0, 1) := by decide +kernel
theorem dX7_execute_5 : decode cX7_execute 5 = .ok (.invokevirtual 237, 3) := by decide +kernel
theorem dX7_execute_8 : decode cX7_execute 8 = .ok (.istore_n 1, 1) := by decide +kernel
theorem dX7_execute_9 : decode cX7_execute 9 = .ok (.aload_n 0, 1) := by decide +kernel
theorem dX7_execute_10 : decode cX7_execute 10 = .ok (.getfield 27, 3) := by decide +kernel
theorem dX7_execute_13 : decode cX7_execute 13 = .ok (.iconst 0, 1) := by decide +kernel
theorem dX7_execute_14 : decode cX7_execute 14 = .ok (.invokevirtual 249, 3) := by decide +kernel
theorem dX7_execute_17 : decode cX7_execute 17 = .ok (.istore_n 2, 1) := by decide +kernel
theorem dX7_execute_18 : decode cX7_execute 18 = .ok (.iload_n 1, 1) := by decide +kernel
theorem dX7_execute_19 : decode cX7_execute 19 = .ok (.iconst 4, 1) := by decide +kernel
theorem dX7_execute_20 : decode cX7_execute 20 = .ok (.if_icmp .ne 10, 3) := by decide +kernel
theorem dX7_execute_23 : decode cX7_execute 23 = .ok (.aload_n 0, 1) := by decide +kernel
theorem dX7_execute_24 : decode cX7_execute 24 = .ok (.iload_n 2, 1) := by decide +kernel
theorem dX7_execute_25 : decode cX7_execute 25 = .ok (.iconst 1, 1) := by decide +kernel
theorem dX7_execute_26 : decode cX7_execute 26 = .ok (.invokevirtual 252, 3) := by decide +kernel
theorem dX7_execute_29 : decode cX7_execute 29 = .ok (.ireturn, 1) := by decide +kernel
theorem dX7_execute_30 : decode cX7_execute 30 = .ok (.iload_n 1, 1) := by decide +kernel
theorem dX7_execute_31 : decode cX7_execute 31 = .ok (.iconst 2, 1) := by decide +kernel
theorem dX7_execute_32 : decode cX7_execute 32 = .ok (.if_icmp .eq 5, 3) := by decide +kernel
theorem dX7_execute_35 : decode cX7_execute 35 = .ok (.iconst 0, 1) := by decide +kernel
theorem dX7_execute_36 : decode cX7_execute 36 = .ok (.ireturn, 1) := by decide +kernel
theorem dX7_execute_37 : decode cX7_execute 37 = .ok (.aload_n 0, 1) := by decide +kernel
theorem dX7_execute_38 : decode cX7_execute 38 = .ok (.getfield 34, 3) := by decide +kernel
theorem dX7_execute_41 : decode cX7_execute 41 = .ok (.iload_n 2, 1) := by decide +kernel
theorem dX7_execute_42 : decode cX7_execute 42 = .ok (.invokevirtual 154, 3) := by decide +kernel
theorem dX7_execute_45 : decode cX7_execute 45 = .ok (.iconst 4, 1) := by decide +kernel
theorem dX7_execute_46 : decode cX7_execute 46 = .ok (.if_icmp .ne 17, 3) := by decide +kernel
theorem dX7_execute_49 : decode cX7_execute 49 = .ok (.aload_n 0, 1) := by decide +kernel
theorem dX7_execute_50 : decode cX7_execute 50 = .ok (.aload_n 0, 1) := by decide +kernel
theorem dX7_execute_51 : decode cX7_execute 51 = .ok (.getfield 34, 3) := by decide +kernel
theorem dX7_execute_54 : decode cX7_execute 54 = .ok (.iload_n 2, 1) := by decide +kernel
theorem dX7_execute_55 : decode cX7_execute 55 = .ok (.invokevirtual 157, 3) := by decide +kernel
theorem dX7_execute_58 : decode cX7_execute 58 = .ok (.iconst 1, 1) := by decide +kernel
theorem dX7_execute_59 : decode cX7_execute 59 = .ok (.invokevirtual 252, 3) := by decide +kernel
theorem dX7_execute_62 : decode cX7_execute 62 = .ok (.ireturn, 1) := by decide +kernel
theorem dX7_execute_63 : decode cX7_execute 63 = .ok (.aload_n 0, 1) := by decide +kernel
theorem dX7_execute_64 : decode cX7_execute 64 = .ok (.getfield 19, 3) := by decide +kernel
theorem dX7_execute_67 : decode cX7_execute 67 = .ok (.iload_n 2, 1) := by decide +kernel
theorem dX7_execute_68 : decode cX7_execute 68 = .ok (.invokevirtual 280, 3) := by decide +kernel
theorem dX7_execute_71 : decode cX7_execute 71 = .ok (.ireturn, 1) := by decide +kernel
def fX1_takes_11_21 (S : St) : Option (Int32 × St) :=
    some ((0 : Int32), S)
def fX1_takes_11 (p1 : Int32) (S : St) : Option (Int32 × St) :=
  if p1 < (1 : Int32) then
    fX1_takes_11_21 S
  else
    if (11 : Int32) < p1 then
      fX1_takes_11_21 S
    else
      if p1 = (10 : Int32) then
        fX1_takes_11_21 S
      else
        some ((1 : Int32), S)
def fX7_raise_0 (p1 : Int32) (S : St) : Option (Int32 × St) :=
  bnd (fX1_takes_11 p1 S) fun r1 S1 =>
  if r1 = 0 then
    some ((4 : Int32), S1)
  else
    some (p1, S1)
def fX1_set_11 (p1 : Int32) (p2 : Int32) (S : St) : Option (Int32 × St) :=
  bnd (fX1_takes_11 p1 S) fun r1 S1 =>
  if r1 = 0 then
    some (0, S1)
  else
    if vq p1 12 then
    stp (si S1 12 p1.toNatClampNeg p2) fun S3 =>
    some (0, S3)
    else none
def fX7_setHandler_0_58 (S : St) : Option (Int32 × St) :=
    some ((4 : Int32), S)
def fX7_setHandler_0_60 (q2 : Int32) (q3 : Int32) (S : St) : Option (Int32 × St) :=
    bnd (fX1_set_11 q3 q2 S) fun _ S1 =>
    bnd (fX2_takeOff_5 (2 : Int32) S1) fun _ S2 =>
    some ((0 : Int32), S2)
def fX7_setHandler_0_38 (q1 : Int32) (q2 : Int32) (q3 : Int32) (S : St) : Option (Int32 × St) :=
    bnd (fX1_takes_11 q3 S) fun r1 S1 =>
    if r1 = 0 then
      fX7_setHandler_0_58 S1
    else
      if q1 = 0 then
        if q2 = (-1 : Int32) then
          fX7_setHandler_0_60 q2 q3 S1
        else
          fX7_setHandler_0_58 S1
      else
        fX7_setHandler_0_60 q2 q3 S1
def fX7_setHandler_0 (S : St) : Option (Int32 × St) :=
  bnd (fX2_kindUnder_5 (0 : Int32) S) fun r1 S1 =>
  bnd (fX2_numberUnder_5 (0 : Int32) S1) fun r2 S2 =>
  bnd (fX2_numberUnder_5 (1 : Int32) S2) fun r3 S3 =>
  if r1 = (4 : Int32) then
    fX7_setHandler_0_38 r1 r2 r3 S3
  else
    if r1 = 0 then
      fX7_setHandler_0_38 r1 r2 r3 S3
    else
      some ((3 : Int32), S3)
def fX7_guard_0 (S : St) : Option (Int32 × St) :=
  bnd (fX0_roomFor_13 (2 : Int32) S) fun r1 S1 =>
  if r1 = 0 then
    some ((8 : Int32), S1)
  else
    bnd (fX0_add_13 (3 : Int32) (0 : Int32) S1) fun _ S3 =>
    bnd (fX2_numberUnder_5 (0 : Int32) S3) fun r4 S4 =>
    bnd (fX0_add_13 (0 : Int32) r4 S4) fun _ S5 =>
    bnd (fX2_takeOff_5 (1 : Int32) S5) fun _ S6 =>
    some ((0 : Int32), S6)
def fX0_loopToExit_13_59 (S : St) : Option (Int32 × St) :=
    some ((-1 : Int32), S)
def fX0_loopToExit_13_51 (q1 : Int32) (S : St) : Option (Int32 × St) :=
    some (q1, S)
def fX0_loopToExit_13_7 : Nat → Int32 → St → Option (Int32 × St)
  | 0, _, _ => none
  | n + 1, q1, S =>
    if q1 < 0 then
      fX0_loopToExit_13_59 S
    else
      if vq q1 30 then
      if (S.1 14 q1.toNatClampNeg) = (3 : Int32) then
        fX0_loopToExit_13_59 S
      else
        if vq q1 30 then
        if (S.1 14 q1.toNatClampNeg) = (4 : Int32) then
          fX0_loopToExit_13_59 S
        else
          if vq q1 30 then
          if (S.1 14 q1.toNatClampNeg) = (1 : Int32) then
            fX0_loopToExit_13_51 q1 S
          else
            if vq q1 30 then
            if (S.1 14 q1.toNatClampNeg) = (2 : Int32) then
              fX0_loopToExit_13_51 q1 S
            else
              stv (q1 + (-1)) fun y10 =>
              fX0_loopToExit_13_7 n y10 S
            else none
          else none
        else none
      else none
def fX0_loopToExit_13 (S : St) : Option (Int32 × St) :=
  stv ((S.1 13 6) - (1 : Int32)) fun y1 =>
  fX0_loopToExit_13_7 500 y1 S
def fX7_exitLoop_0 (S : St) : Option (Int32 × St) :=
  bnd (fX0_loopToExit_13 S) fun r1 S1 =>
  if r1 = (-1 : Int32) then
    some ((9 : Int32), S1)
  else
    bnd (fX0_cutTo_13 r1 S1) fun _ S3 =>
    some ((0 : Int32), S3)
def fX0_countBy_13 (p1 : Int32) (p2 : Int32) (p3 : Int32) (S : St) : Option (Int32 × St) :=
  if (S.1 13 6) ≤ 0 then
    some (0, S)
  else
    if vq ((S.1 13 6) - (1 : Int32)) 30 then
    stp (sl S ((S.1 13 6) - (1 : Int32)).toNatClampNeg p1.toInt64) fun S2 =>
    if vq ((S2.1 13 6) - (1 : Int32)) 30 then
    stp (si S2 18 ((S2.1 13 6) - (1 : Int32)).toNatClampNeg p2) fun S3 =>
    if vq ((S3.1 13 6) - (1 : Int32)) 30 then
    stp (si S3 19 ((S3.1 13 6) - (1 : Int32)).toNatClampNeg p3) fun S4 =>
    some (0, S4)
    else none
    else none
    else none
def fX7_beginLoop_0 (p1 : Int32) (p2 : Int32) (p3 : Int32) (p4 : Int32) (p5 : Int32) (S : St) : Option (Int32 × St) :=
  bnd (fX0_roomFor_13 (1 : Int32) S) fun r1 S1 =>
  if r1 = 0 then
    some ((8 : Int32), S1)
  else
    bnd (fX2_numberUnder_5 (0 : Int32) S1) fun r3 S3 =>
    bnd (fX0_add_13 p1 r3 S3) fun _ S4 =>
    bnd (fX0_countBy_13 p2 p3 p4 S4) fun _ S5 =>
    bnd (fX2_takeOff_5 p5 S5) fun _ S6 =>
    some ((0 : Int32), S6)
def fX7_countThrough_0 (p1 : Int32) (p2 : Int32) (p3 : Int32) (S : St) : Option (Int32 × St) :=
  if p2 = 0 then
    some ((4 : Int32), S)
  else
    bnd (fX7_beginLoop_0 (2 : Int32) p1 p2 p3 (4 : Int32) S) fun r2 S2 =>
    some (r2, S2)
def fX7_repeat_0 (p1 : Int32) (S : St) : Option (Int32 × St) :=
  if 0 ≤ p1 then
    bnd (fX7_beginLoop_0 (1 : Int32) (1 : Int32) (1 : Int32) p1 (2 : Int32) S) fun r2 S2 =>
    some (r2, S2)
  else
    some ((4 : Int32), S)
def fX7_begin_0_68 (q1 : Int32) (q2 : Int32) (S : St) : Option (Int32 × St) :=
    bnd (fX2_takeOff_5 q2 S) fun _ S1 =>
    bnd (fX0_add_13 (0 : Int32) q1 S1) fun _ S2 =>
    some ((0 : Int32), S2)
def fX7_begin_0_39 (q1 : Int32) (q2 : Int32) (z0 : Int32) (S : St) : Option (Int32 × St) :=
    if z0 = 0 then
      bnd (fX0_roomFor_13 (1 : Int32) S) fun r2 S2 =>
      if r2 = 0 then
        some ((8 : Int32), S2)
      else
        fX7_begin_0_68 q1 q2 S2
    else
      bnd (fX0_takeTop_13 S) fun _ S4 =>
      fX7_begin_0_68 q1 q2 S4
def fX7_begin_0_38 (q1 : Int32) (q2 : Int32) (S : St) : Option (Int32 × St) :=
    fX7_begin_0_39 q1 q2 (0 : Int32) S
def fX7_begin_0 (p1 : Int32) (p2 : Int32) (S : St) : Option (Int32 × St) :=
  bnd (fX0_topSort_13 S) fun r1 S1 =>
  if r1 = 0 then
    bnd (fX0_topPlace_13 S1) fun r3 S3 =>
    bnd (fX0_topSubject_13 S3) fun r4 S4 =>
    bnd (fX4_length_1 r4 S4) fun r5 S5 =>
    if r3 < r5 then
      fX7_begin_0_38 p1 p2 S5
    else
      fX7_begin_0_39 p1 p2 (1 : Int32) S5
  else
    fX7_begin_0_38 p1 p2 S1
def fX7_beginIf_0 (S : St) : Option (Int32 × St) :=
  bnd (fX2_numberUnder_5 (1 : Int32) S) fun r1 S1 =>
  if r1 = (1 : Int32) then
    bnd (fX2_numberUnder_5 (0 : Int32) S1) fun r3 S3 =>
    bnd (fX7_begin_0 r3 (2 : Int32) S3) fun r4 S4 =>
    some (r4, S4)
  else
    bnd (fX2_takeOff_5 (2 : Int32) S1) fun _ S5 =>
    some ((0 : Int32), S5)
def fX7_execute_0 (S : St) : Option (Int32 × St) :=
  bnd (fX2_kindUnder_5 (0 : Int32) S) fun r1 S1 =>
  bnd (fX2_numberUnder_5 (0 : Int32) S1) fun r2 S2 =>
  if r1 = (4 : Int32) then
    bnd (fX7_begin_0 r2 (1 : Int32) S2) fun r4 S4 =>
    some (r4, S4)
  else
    if r1 = (2 : Int32) then
      bnd (fX6_kindOf_8 r2 S2) fun r6 S6 =>
      if r6 = (4 : Int32) then
        bnd (fX6_numberOf_8 r2 S6) fun r8 S8 =>
        bnd (fX7_begin_0 r8 (1 : Int32) S8) fun r9 S9 =>
        some (r9, S9)
      else
        bnd (fX3_lookUp_24 r2 S6) fun r10 S10 =>
        some (r10, S10)
    else
      some ((0 : Int32), S2)
set_option maxRecDepth 100000 in
set_option maxHeartbeats 4000000 in
theorem rX1_takes_11_21 {p : Program} {l : Launch} {e : Env} {s : State} {m : MethodId} {args : Array Value} {below : List Frame} {meth : Method} {c : Code} {D : va_G} {a : Nat → Nat} {cI cJ : ClassId} {tk : Nat} {tf : Nat → Int32} (C : Cx p s m args meth c RX1 cX1_takes 2 D cI cJ tk tf (AR a 25 s.heap.size)) (hr : meth.sig.returnType = (some .boolean)) : ∀ (S : St) (x : Int32 × St) (H : Heap) (locs : List Loc) (ls : Array Slot), fX1_takes_11_21 S = some x → Wd D (wE a cI cJ) (AR a 25 s.heap.size) s S H locs → lv_has ls 2 [] → W p l e { frames := 0, cells := 0, slots := 0, locals := 0 } s m args below meth c H locs 0 0 (MQ below (Qi D (wE a cI cJ) (AR a 25 s.heap.size) x) args s 0 0 (AR a 25 s.heap.size)) (F0 m 21 ls []) := by
  intro S x H locs ls hf G hl
  unfold fX1_takes_11_21 at hf
  refine lv_iconst (v := 0) C.1 C.2.1 dX1_takes_21 (by decide) ?_
  exact r_zret C hr (Or.inl rfl) G hf dX1_takes_22
set_option maxRecDepth 100000 in
set_option maxHeartbeats 4000000 in
theorem mX1_takes_11 (l : Launch) (D : va_G) (a : Nat → Nat) (cI cJ : ClassId) (tk : Nat) (tf : Nat → Int32) (p1 : Int32) (S : St) (x : Int32 × St) (hf : fX1_takes_11 p1 S = some x) : Mi l D (wE a cI cJ) a 25 cI cJ tk tf yX1_takes cX1_takes 2 (some .boolean) { frames := 0, cells := 0, slots := 0, locals := 0 } [.ref (a 11), .int p1] S x := by
  refine opn_i (by decide +kernel) (Nat.le_of_ble_eq_true rfl) (fun p e s m below meth c C hr G ls hl => ?_)
  replace hl : lv_has ls 2 [(0, .ref (a 11)), (1, .int p1)] := hl
  unfold fX1_takes_11 at hf
  refine lv_iload_n C.1 C.2.1 dX1_takes_0 rfl (lv_at hl 1 rfl) ?_
  refine lv_iconst (v := 1) C.1 C.2.1 dX1_takes_1 (by decide) ?_
  refine lv_icmp_lt (tgt := 21) C.1 C.2.1 dX1_takes_2 (by decide) (fun c1 => ?_) (fun c1 => ?_)
  · replace hf := ifp c1 hf
    exact rX1_takes_11_21 C hr S _ _ _ _ hf G (lv_sub hl [] rfl)
  · replace hf := ifq c1 hf
    refine lv_iload_n C.1 C.2.1 dX1_takes_5 rfl (lv_at hl 1 rfl) ?_
    refine lv_bipush (v := 11) C.1 C.2.1 dX1_takes_6 (by decide) ?_
    refine lv_icmp_gt (tgt := 21) C.1 C.2.1 dX1_takes_8 (by decide) (fun c2 => ?_) (fun c2 => ?_)
    · replace hf := ifp c2 hf
      exact rX1_takes_11_21 C hr S _ _ _ _ hf G (lv_sub hl [] rfl)
    · replace hf := ifq c2 hf
      refine lv_iload_n C.1 C.2.1 dX1_takes_11 rfl (lv_at hl 1 rfl) ?_
      refine lv_bipush (v := 10) C.1 C.2.1 dX1_takes_12 (by decide) ?_
      refine lv_icmp_eq (tgt := 21) C.1 C.2.1 dX1_takes_14 (by decide) (fun c3 => ?_) (fun c3 => ?_)
      · replace hf := ifp c3 hf
        exact rX1_takes_11_21 C hr S _ _ _ _ hf G (lv_sub hl [] rfl)
      · replace hf := ifq c3 hf
        refine lv_iconst (v := 1) C.1 C.2.1 dX1_takes_17 (by decide) ?_
        refine lv_goto (tgt := 22) C.1 C.2.1 dX1_takes_18 (by decide) ?_
        exact r_zret C hr (Or.inr rfl) G hf dX1_takes_22
set_option maxRecDepth 100000 in
set_option maxHeartbeats 4000000 in
theorem mX7_raise_0 (l : Launch) (D : va_G) (a : Nat → Nat) (cI cJ : ClassId) (tk : Nat) (tf : Nat → Int32) (p1 : Int32) (S : St) (x : Int32 × St) (hf : fX7_raise_0 p1 S = some x) : Mi l D (wE a cI cJ) a 25 cI cJ tk tf yX7_raise cX7_raise 2 (some .int) { frames := 1, cells := 0, slots := 0, locals := 21 } [.ref (a 0), .int p1] S x := by
  refine opn_i (by decide +kernel) (Nat.le_of_ble_eq_true rfl) (fun p e s m below meth c C hr G ls hl => ?_)
  replace hl : lv_has ls 2 [(0, .ref (a 0)), (1, .int p1)] := hl
  unfold fX7_raise_0 at hf
  refine lv_aload_n C.1 C.2.1 dX7_raise_0 rfl (lv_at hl 0 rfl) ?_
  refine gE_0_4 C G k_225 dX7_raise_1 ?_
  refine lv_iload_n C.1 C.2.1 dX7_raise_4 rfl (lv_at hl 1 rfl) ?_
  obtain ⟨r1, S1, eS1, hf⟩ := bnd_e hf
  refine r_cali (As := [.int p1]) (na := 1) C adE G (mX1_takes_11 l D a cI cJ tk tf p1 S _ eS1) k_461 k_462 k_463 k_65 k_464 (q0 := 11) rfl (ci := 1) rfl (by decide +kernel) ⟨Nat.le_of_ble_eq_true rfl, Nat.le_of_ble_eq_true rfl⟩ rfl rfl ⟨Nat.zero_le _, Nat.zero_le _⟩ rfl hl.1 rfl (Nat.le_of_ble_eq_true rfl) dX7_raise_5 (fun H locs G => ?_)
  refine lv_if_eq (tgt := 15) C.1 C.2.1 dX7_raise_8 (by decide) (fun c2 => ?_) (fun c2 => ?_)
  · replace hf := ifp c2 hf
    refine lv_iconst (v := 4) C.1 C.2.1 dX7_raise_15 (by decide) ?_
    exact r_iret C hr G hf dX7_raise_16
  · replace hf := ifq c2 hf
    refine lv_iload_n C.1 C.2.1 dX7_raise_11 rfl (lv_at hl 1 rfl) ?_
    refine lv_goto (tgt := 16) C.1 C.2.1 dX7_raise_12 (by decide) ?_
    exact r_iret C hr G hf dX7_raise_16
set_option maxRecDepth 100000 in
set_option maxHeartbeats 4000000 in
theorem mX1_set_11 (l : Launch) (D : va_G) (a : Nat → Nat) (cI cJ : ClassId) (tk : Nat) (tf : Nat → Int32) (p1 : Int32) (p2 : Int32) (S : St) (x : Int32 × St) (hf : fX1_set_11 p1 p2 S = some x) : Mv l D (wE a cI cJ) a 25 cI cJ tk tf yX1_set cX1_set 3 { frames := 1, cells := 0, slots := 0, locals := 21 } [.ref (a 11), .int p1, .int p2] S x := by
  refine opn_v (by decide +kernel) (Nat.le_of_ble_eq_true rfl) (fun p e s m below meth c C hr G ls hl => ?_)
  replace hl : lv_has ls 3 [(0, .ref (a 11)), (1, .int p1), (2, .int p2)] := hl
  unfold fX1_set_11 at hf
  refine lv_aload_n C.1 C.2.1 dX1_set_0 rfl (lv_at hl 0 rfl) ?_
  refine lv_iload_n C.1 C.2.1 dX1_set_1 rfl (lv_at hl 1 rfl) ?_
  obtain ⟨r1, S1, eS1, hf⟩ := bnd_e hf
  refine r_cali (As := [.int p1]) (na := 1) C adE G (mX1_takes_11 l D a cI cJ tk tf p1 S _ eS1) k_469 k_462 k_463 k_65 k_464 (q0 := 11) rfl (ci := 1) rfl (by decide +kernel) ⟨Nat.le_of_ble_eq_true rfl, Nat.le_of_ble_eq_true rfl⟩ rfl rfl ⟨Nat.zero_le _, Nat.zero_le _⟩ rfl hl.1 rfl (Nat.le_of_ble_eq_true rfl) dX1_set_2 (fun H locs G => ?_)
  refine lv_if_eq (tgt := 15) C.1 C.2.1 dX1_set_5 (by decide) (fun c2 => ?_) (fun c2 => ?_)
  · replace hf := ifp c2 hf
    exact r_vret C hr G hf dX1_set_15
  · replace hf := ifq c2 hf
    refine lv_aload_n C.1 C.2.1 dX1_set_8 rfl (lv_at hl 0 rfl) ?_
    refine gE_11_0 C G k_158 dX1_set_9 ?_
    refine lv_iload_n C.1 C.2.1 dX1_set_12 rfl (lv_at hl 1 rfl) ?_
    refine lv_iload_n C.1 C.2.1 dX1_set_13 rfl (lv_at hl 2 rfl) ?_
    obtain ⟨hi3, hf⟩ := ifn hf
    refine sE_12 C G hi3 dX1_set_14 (fun H locs G => ?_)
    obtain ⟨S3, eS3, hf⟩ := stp_e hf
    rw [← eS3] at G
    clear eS3
    exact r_vret C hr G hf dX1_set_15
set_option maxRecDepth 100000 in
set_option maxHeartbeats 4000000 in
theorem rX7_setHandler_0_58 {p : Program} {l : Launch} {e : Env} {s : State} {m : MethodId} {args : Array Value} {below : List Frame} {meth : Method} {c : Code} {D : va_G} {a : Nat → Nat} {cI cJ : ClassId} {tk : Nat} {tf : Nat → Int32} (C : Cx p s m args meth c RX7 cX7_setHandler 4 D cI cJ tk tf (AR a 25 s.heap.size)) (hr : meth.sig.returnType = (some .int)) : ∀ (S : St) (x : Int32 × St) (H : Heap) (locs : List Loc) (ls : Array Slot), fX7_setHandler_0_58 S = some x → Wd D (wE a cI cJ) (AR a 25 s.heap.size) s S H locs → lv_has ls 4 [] → W p l e { frames := 2, cells := 0, slots := 0, locals := 43 } s m args below meth c H locs 0 0 (MQ below (Qi D (wE a cI cJ) (AR a 25 s.heap.size) x) args s 0 0 (AR a 25 s.heap.size)) (F0 m 58 ls []) := by
  intro S x H locs ls hf G hl
  unfold fX7_setHandler_0_58 at hf
  refine lv_iconst (v := 4) C.1 C.2.1 dX7_setHandler_58 (by decide) ?_
  exact r_iret C hr G hf dX7_setHandler_59
set_option maxRecDepth 100000 in
set_option maxHeartbeats 4000000 in
theorem rX7_setHandler_0_60 {p : Program} {l : Launch} {e : Env} {s : State} {m : MethodId} {args : Array Value} {below : List Frame} {meth : Method} {c : Code} {D : va_G} {a : Nat → Nat} {cI cJ : ClassId} {tk : Nat} {tf : Nat → Int32} (C : Cx p s m args meth c RX7 cX7_setHandler 4 D cI cJ tk tf (AR a 25 s.heap.size)) (hr : meth.sig.returnType = (some .int)) : ∀ (q2 : Int32) (q3 : Int32) (S : St) (x : Int32 × St) (H : Heap) (locs : List Loc) (ls : Array Slot), fX7_setHandler_0_60 q2 q3 S = some x → Wd D (wE a cI cJ) (AR a 25 s.heap.size) s S H locs → lv_has ls 4 [(0, .ref (a 0)), (2, .int q2), (3, .int q3)] → W p l e { frames := 2, cells := 0, slots := 0, locals := 43 } s m args below meth c H locs 0 0 (MQ below (Qi D (wE a cI cJ) (AR a 25 s.heap.size) x) args s 0 0 (AR a 25 s.heap.size)) (F0 m 60 ls []) := by
  intro q2 q3 S x H locs ls hf G hl
  unfold fX7_setHandler_0_60 at hf
  refine lv_aload_n C.1 C.2.1 dX7_setHandler_60 rfl (lv_at hl 0 rfl) ?_
  refine gE_0_4 C G k_225 dX7_setHandler_61 ?_
  refine lv_iload_n C.1 C.2.1 dX7_setHandler_64 rfl (lv_at hl 2 rfl) ?_
  refine lv_iload_n C.1 C.2.1 dX7_setHandler_65 rfl (lv_at hl 1 rfl) ?_
  obtain ⟨r1, S1, eS1, hf⟩ := bnd_e hf
  refine r_calv (As := [.int q3, .int q2]) (na := 2) C adE G (mX1_set_11 l D a cI cJ tk tf q3 q2 S _ eS1) k_465 k_466 k_467 k_65 k_468 (q0 := 11) rfl (ci := 1) rfl (by decide +kernel) ⟨Nat.le_of_ble_eq_true rfl, Nat.le_of_ble_eq_true rfl⟩ rfl rfl ⟨Nat.zero_le _, Nat.zero_le _⟩ rfl hl.1 rfl (Nat.le_of_ble_eq_true rfl) dX7_setHandler_66 (fun H locs G => ?_)
  refine lv_aload_n C.1 C.2.1 dX7_setHandler_69 rfl (lv_at hl 0 rfl) ?_
  refine gE_0_2 C G k_223 dX7_setHandler_70 ?_
  refine lv_iconst (v := 2) C.1 C.2.1 dX7_setHandler_73 (by decide) ?_
  obtain ⟨r2, S2, eS2, hf⟩ := bnd_e hf
  refine r_calv (As := [.int (2 : Int32)]) (na := 1) C adE G (mX2_takeOff_5 l D a cI cJ tk tf (2 : Int32) S1 _ eS2) k_300 k_301 k_302 k_62 k_303 (q0 := 5) rfl (ci := 2) rfl (by decide +kernel) ⟨Nat.le_of_ble_eq_true rfl, Nat.le_of_ble_eq_true rfl⟩ rfl rfl ⟨Nat.zero_le _, Nat.zero_le _⟩ rfl hl.1 rfl (Nat.le_of_ble_eq_true rfl) dX7_setHandler_74 (fun H locs G => ?_)
  refine lv_iconst (v := 0) C.1 C.2.1 dX7_setHandler_77 (by decide) ?_
  exact r_iret C hr G hf dX7_setHandler_78
set_option maxRecDepth 100000 in
set_option maxHeartbeats 4000000 in
theorem rX7_setHandler_0_38 {p : Program} {l : Launch} {e : Env} {s : State} {m : MethodId} {args : Array Value} {below : List Frame} {meth : Method} {c : Code} {D : va_G} {a : Nat → Nat} {cI cJ : ClassId} {tk : Nat} {tf : Nat → Int32} (C : Cx p s m args meth c RX7 cX7_setHandler 4 D cI cJ tk tf (AR a 25 s.heap.size)) (hr : meth.sig.returnType = (some .int)) : ∀ (q1 : Int32) (q2 : Int32) (q3 : Int32) (S : St) (x : Int32 × St) (H : Heap) (locs : List Loc) (ls : Array Slot), fX7_setHandler_0_38 q1 q2 q3 S = some x → Wd D (wE a cI cJ) (AR a 25 s.heap.size) s S H locs → lv_has ls 4 [(0, .ref (a 0)), (1, .int q1), (2, .int q2), (3, .int q3)] → W p l e { frames := 2, cells := 0, slots := 0, locals := 43 } s m args below meth c H locs 0 0 (MQ below (Qi D (wE a cI cJ) (AR a 25 s.heap.size) x) args s 0 0 (AR a 25 s.heap.size)) (F0 m 38 ls []) := by
  intro q1 q2 q3 S x H locs ls hf G hl
  unfold fX7_setHandler_0_38 at hf
  refine lv_aload_n C.1 C.2.1 dX7_setHandler_38 rfl (lv_at hl 0 rfl) ?_
  refine gE_0_4 C G k_225 dX7_setHandler_39 ?_
  refine lv_iload_n C.1 C.2.1 dX7_setHandler_42 rfl (lv_at hl 3 rfl) ?_
  obtain ⟨r1, S1, eS1, hf⟩ := bnd_e hf
  refine r_cali (As := [.int q3]) (na := 1) C adE G (mX1_takes_11 l D a cI cJ tk tf q3 S _ eS1) k_461 k_462 k_463 k_65 k_464 (q0 := 11) rfl (ci := 1) rfl (by decide +kernel) ⟨Nat.le_of_ble_eq_true rfl, Nat.le_of_ble_eq_true rfl⟩ rfl rfl ⟨Nat.zero_le _, Nat.zero_le _⟩ rfl hl.1 rfl (Nat.le_of_ble_eq_true rfl) dX7_setHandler_43 (fun H locs G => ?_)
  refine lv_if_eq (tgt := 58) C.1 C.2.1 dX7_setHandler_46 (by decide) (fun c2 => ?_) (fun c2 => ?_)
  · replace hf := ifp c2 hf
    exact rX7_setHandler_0_58 C hr S1 _ _ _ _ hf G (lv_sub hl [] rfl)
  · replace hf := ifq c2 hf
    refine lv_iload_n C.1 C.2.1 dX7_setHandler_49 rfl (lv_at hl 1 rfl) ?_
    refine lv_if_ne (tgt := 60) C.1 C.2.1 dX7_setHandler_50 (by decide) (fun c3 => ?_) (fun c3 => ?_)
    · replace hf := ifq c3 hf
      exact rX7_setHandler_0_60 C hr q2 q3 S1 _ _ _ _ hf G (lv_sub hl [0, 2, 3] rfl)
    · replace hf := ifp c3 hf
      refine lv_iload_n C.1 C.2.1 dX7_setHandler_53 rfl (lv_at hl 2 rfl) ?_
      refine lv_iconst (v := (-1)) C.1 C.2.1 dX7_setHandler_54 (by decide) ?_
      refine lv_icmp_eq (tgt := 60) C.1 C.2.1 dX7_setHandler_55 (by decide) (fun c4 => ?_) (fun c4 => ?_)
      · replace hf := ifp c4 hf
        exact rX7_setHandler_0_60 C hr q2 q3 S1 _ _ _ _ hf G (lv_sub hl [0, 2, 3] rfl)
      · replace hf := ifq c4 hf
        exact rX7_setHandler_0_58 C hr S1 _ _ _ _ hf G (lv_sub hl [] rfl)
set_option maxRecDepth 100000 in
set_option maxHeartbeats 4000000 in
theorem mX7_setHandler_0 (l : Launch) (D : va_G) (a : Nat → Nat) (cI cJ : ClassId) (tk : Nat) (tf : Nat → Int32) (S : St) (x : Int32 × St) (hf : fX7_setHandler_0 S = some x) : Mi l D (wE a cI cJ) a 25 cI cJ tk tf yX7_setHandler cX7_setHandler 4 (some .int) { frames := 2, cells := 0, slots := 0, locals := 43 } [.ref (a 0)] S x := by
  refine opn_i (by decide +kernel) (Nat.le_of_ble_eq_true rfl) (fun p e s m below meth c C hr G ls hl => ?_)
  replace hl : lv_has ls 4 [(0, .ref (a 0))] := hl
  unfold fX7_setHandler_0 at hf
  refine lv_aload_n C.1 C.2.1 dX7_setHandler_0 rfl (lv_at hl 0 rfl) ?_
  refine gE_0_2 C G k_223 dX7_setHandler_1 ?_
  refine lv_iconst (v := 0) C.1 C.2.1 dX7_setHandler_4 (by decide) ?_
  obtain ⟨r1, S1, eS1, hf⟩ := bnd_e hf
  refine r_cali (As := [.int (0 : Int32)]) (na := 1) C adE G (mX2_kindUnder_5 l D a cI cJ tk tf (0 : Int32) S _ eS1) k_370 k_371 k_372 k_62 k_373 (q0 := 5) rfl (ci := 2) rfl (by decide +kernel) ⟨Nat.le_of_ble_eq_true rfl, Nat.le_of_ble_eq_true rfl⟩ rfl rfl ⟨Nat.zero_le _, Nat.zero_le _⟩ rfl hl.1 rfl (Nat.le_of_ble_eq_true rfl) dX7_setHandler_5 (fun H locs G => ?_)
  refine lv_istore_n (lv' := [(1, .int r1), (0, .ref (a 0))]) C.1 C.2.1 dX7_setHandler_8 rfl hl (by decide) rfl (fun ls hl => ?_)
  refine lv_aload_n C.1 C.2.1 dX7_setHandler_9 rfl (lv_at hl 1 rfl) ?_
  refine gE_0_2 C G k_223 dX7_setHandler_10 ?_
  refine lv_iconst (v := 0) C.1 C.2.1 dX7_setHandler_13 (by decide) ?_
  obtain ⟨r2, S2, eS2, hf⟩ := bnd_e hf
  refine r_cali (As := [.int (0 : Int32)]) (na := 1) C adE G (mX2_numberUnder_5 l D a cI cJ tk tf (0 : Int32) S1 _ eS2) k_378 k_379 k_380 k_62 k_381 (q0 := 5) rfl (ci := 2) rfl (by decide +kernel) ⟨Nat.le_of_ble_eq_true rfl, Nat.le_of_ble_eq_true rfl⟩ rfl rfl ⟨Nat.zero_le _, Nat.zero_le _⟩ rfl hl.1 rfl (Nat.le_of_ble_eq_true rfl) dX7_setHandler_14 (fun H locs G => ?_)
  refine lv_istore_n (lv' := [(2, .int r2), (1, .int r1), (0, .ref (a 0))]) C.1 C.2.1 dX7_setHandler_17 rfl hl (by decide) rfl (fun ls hl => ?_)
  refine lv_aload_n C.1 C.2.1 dX7_setHandler_18 rfl (lv_at hl 2 rfl) ?_
  refine gE_0_2 C G k_223 dX7_setHandler_19 ?_
  refine lv_iconst (v := 1) C.1 C.2.1 dX7_setHandler_22 (by decide) ?_
  obtain ⟨r3, S3, eS3, hf⟩ := bnd_e hf
  refine r_cali (As := [.int (1 : Int32)]) (na := 1) C adE G (mX2_numberUnder_5 l D a cI cJ tk tf (1 : Int32) S2 _ eS3) k_378 k_379 k_380 k_62 k_381 (q0 := 5) rfl (ci := 2) rfl (by decide +kernel) ⟨Nat.le_of_ble_eq_true rfl, Nat.le_of_ble_eq_true rfl⟩ rfl rfl ⟨Nat.zero_le _, Nat.zero_le _⟩ rfl hl.1 rfl (Nat.le_of_ble_eq_true rfl) dX7_setHandler_23 (fun H locs G => ?_)
  refine lv_istore_n (lv' := [(3, .int r3), (2, .int r2), (1, .int r1), (0, .ref (a 0))]) C.1 C.2.1 dX7_setHandler_26 rfl hl (by decide) rfl (fun ls hl => ?_)
  refine lv_iload_n C.1 C.2.1 dX7_setHandler_27 rfl (lv_at hl 2 rfl) ?_
  refine lv_iconst (v := 4) C.1 C.2.1 dX7_setHandler_28 (by decide) ?_
  refine lv_icmp_eq (tgt := 38) C.1 C.2.1 dX7_setHandler_29 (by decide) (fun c4 => ?_) (fun c4 => ?_)
  · replace hf := ifp c4 hf
    exact rX7_setHandler_0_38 C hr r1 r2 r3 S3 _ _ _ _ hf G (lv_sub hl [3, 2, 1, 0] rfl)
  · replace hf := ifq c4 hf
    refine lv_iload_n C.1 C.2.1 dX7_setHandler_32 rfl (lv_at hl 2 rfl) ?_
    refine lv_if_eq (tgt := 38) C.1 C.2.1 dX7_setHandler_33 (by decide) (fun c5 => ?_) (fun c5 => ?_)
    · replace hf := ifp c5 hf
      exact rX7_setHandler_0_38 C hr r1 r2 r3 S3 _ _ _ _ hf G (lv_sub hl [3, 2, 1, 0] rfl)
    · replace hf := ifq c5 hf
      refine lv_iconst (v := 3) C.1 C.2.1 dX7_setHandler_36 (by decide) ?_
      exact r_iret C hr G hf dX7_setHandler_37
set_option maxRecDepth 100000 in
set_option maxHeartbeats 4000000 in
theorem mX7_guard_0 (l : Launch) (D : va_G) (a : Nat → Nat) (cI cJ : ClassId) (tk : Nat) (tf : Nat → Int32) (S : St) (x : Int32 × St) (hf : fX7_guard_0 S = some x) : Mi l D (wE a cI cJ) a 25 cI cJ tk tf yX7_guard cX7_guard 1 (some .int) { frames := 1, cells := 0, slots := 0, locals := 22 } [.ref (a 0)] S x := by
  refine opn_i (by decide +kernel) (Nat.le_of_ble_eq_true rfl) (fun p e s m below meth c C hr G ls hl => ?_)
  replace hl : lv_has ls 1 [(0, .ref (a 0))] := hl
  unfold fX7_guard_0 at hf
  refine lv_aload_n C.1 C.2.1 dX7_guard_0 rfl (lv_at hl 0 rfl) ?_
  refine gE_0_5 C G k_226 dX7_guard_1 ?_
  refine lv_iconst (v := 2) C.1 C.2.1 dX7_guard_4 (by decide) ?_
  obtain ⟨r1, S1, eS1, hf⟩ := bnd_e hf
  refine r_cali (As := [.int (2 : Int32)]) (na := 1) C adE G (mX0_roomFor_13 l D a cI cJ tk tf (2 : Int32) S _ eS1) k_386 k_387 k_388 k_66 k_389 (q0 := 13) rfl (ci := 0) rfl (by decide +kernel) ⟨Nat.le_of_ble_eq_true rfl, Nat.le_of_ble_eq_true rfl⟩ rfl rfl ⟨Nat.zero_le _, Nat.zero_le _⟩ rfl hl.1 rfl (Nat.le_of_ble_eq_true rfl) dX7_guard_5 (fun H locs G => ?_)
  refine lv_if_ne (tgt := 14) C.1 C.2.1 dX7_guard_8 (by decide) (fun c2 => ?_) (fun c2 => ?_)
  · replace hf := ifq c2 hf
    refine lv_aload_n C.1 C.2.1 dX7_guard_14 rfl (lv_at hl 0 rfl) ?_
    refine gE_0_5 C G k_226 dX7_guard_15 ?_
    refine lv_iconst (v := 3) C.1 C.2.1 dX7_guard_18 (by decide) ?_
    refine lv_iconst (v := 0) C.1 C.2.1 dX7_guard_19 (by decide) ?_
    obtain ⟨r3, S3, eS3, hf⟩ := bnd_e hf
    refine r_calv (As := [.int (3 : Int32), .int (0 : Int32)]) (na := 2) C adE G (mX0_add_13 l D a cI cJ tk tf (3 : Int32) (0 : Int32) S1 _ eS3) k_390 k_313 k_314 k_66 k_315 (q0 := 13) rfl (ci := 0) rfl (by decide +kernel) ⟨Nat.le_of_ble_eq_true rfl, Nat.le_of_ble_eq_true rfl⟩ rfl rfl ⟨Nat.zero_le _, Nat.zero_le _⟩ rfl hl.1 rfl (Nat.le_of_ble_eq_true rfl) dX7_guard_20 (fun H locs G => ?_)
    refine lv_aload_n C.1 C.2.1 dX7_guard_23 rfl (lv_at hl 0 rfl) ?_
    refine gE_0_5 C G k_226 dX7_guard_24 ?_
    refine lv_iconst (v := 0) C.1 C.2.1 dX7_guard_27 (by decide) ?_
    refine lv_aload_n C.1 C.2.1 dX7_guard_28 rfl (lv_at hl 0 rfl) ?_
    refine gE_0_2 C G k_223 dX7_guard_29 ?_
    refine lv_iconst (v := 0) C.1 C.2.1 dX7_guard_32 (by decide) ?_
    obtain ⟨r4, S4, eS4, hf⟩ := bnd_e hf
    refine r_cali (As := [.int (0 : Int32)]) (na := 1) C adE G (mX2_numberUnder_5 l D a cI cJ tk tf (0 : Int32) S3 _ eS4) k_378 k_379 k_380 k_62 k_381 (q0 := 5) rfl (ci := 2) rfl (by decide +kernel) ⟨Nat.le_of_ble_eq_true rfl, Nat.le_of_ble_eq_true rfl⟩ rfl rfl ⟨Nat.zero_le _, Nat.zero_le _⟩ rfl hl.1 rfl (Nat.le_of_ble_eq_true rfl) dX7_guard_33 (fun H locs G => ?_)
    obtain ⟨r5, S5, eS5, hf⟩ := bnd_e hf
    refine r_calv (As := [.int (0 : Int32), .int r4]) (na := 2) C adE G (mX0_add_13 l D a cI cJ tk tf (0 : Int32) r4 S4 _ eS5) k_390 k_313 k_314 k_66 k_315 (q0 := 13) rfl (ci := 0) rfl (by decide +kernel) ⟨Nat.le_of_ble_eq_true rfl, Nat.le_of_ble_eq_true rfl⟩ rfl rfl ⟨Nat.zero_le _, Nat.zero_le _⟩ rfl hl.1 rfl (Nat.le_of_ble_eq_true rfl) dX7_guard_36 (fun H locs G => ?_)
    refine lv_aload_n C.1 C.2.1 dX7_guard_39 rfl (lv_at hl 0 rfl) ?_
    refine gE_0_2 C G k_223 dX7_guard_40 ?_
    refine lv_iconst (v := 1) C.1 C.2.1 dX7_guard_43 (by decide) ?_
    obtain ⟨r6, S6, eS6, hf⟩ := bnd_e hf
    refine r_calv (As := [.int (1 : Int32)]) (na := 1) C adE G (mX2_takeOff_5 l D a cI cJ tk tf (1 : Int32) S5 _ eS6) k_300 k_301 k_302 k_62 k_303 (q0 := 5) rfl (ci := 2) rfl (by decide +kernel) ⟨Nat.le_of_ble_eq_true rfl, Nat.le_of_ble_eq_true rfl⟩ rfl rfl ⟨Nat.zero_le _, Nat.zero_le _⟩ rfl hl.1 rfl (Nat.le_of_ble_eq_true rfl) dX7_guard_44 (fun H locs G => ?_)
    refine lv_iconst (v := 0) C.1 C.2.1 dX7_guard_47 (by decide) ?_
    exact r_iret C hr G hf dX7_guard_48
  · replace hf := ifp c2 hf
    refine lv_bipush (v := 8) C.1 C.2.1 dX7_guard_11 (by decide) ?_
    exact r_iret C hr G hf dX7_guard_13
set_option maxRecDepth 100000 in
set_option maxHeartbeats 4000000 in
theorem rX0_loopToExit_13_59 {p : Program} {l : Launch} {e : Env} {s : State} {m : MethodId} {args : Array Value} {below : List Frame} {meth : Method} {c : Code} {D : va_G} {a : Nat → Nat} {cI cJ : ClassId} {tk : Nat} {tf : Nat → Int32} (C : Cx p s m args meth c RX0 cX0_loopToExit 2 D cI cJ tk tf (AR a 25 s.heap.size)) (hr : meth.sig.returnType = (some .int)) : ∀ (S : St) (x : Int32 × St) (H : Heap) (locs : List Loc) (ls : Array Slot), fX0_loopToExit_13_59 S = some x → Wd D (wE a cI cJ) (AR a 25 s.heap.size) s S H locs → lv_has ls 2 [] → W p l e { frames := 0, cells := 0, slots := 0, locals := 0 } s m args below meth c H locs 0 0 (MQ below (Qi D (wE a cI cJ) (AR a 25 s.heap.size) x) args s 0 0 (AR a 25 s.heap.size)) (F0 m 59 ls []) := by
  intro S x H locs ls hf G hl
  unfold fX0_loopToExit_13_59 at hf
  refine lv_iconst (v := (-1)) C.1 C.2.1 dX0_loopToExit_59 (by decide) ?_
  exact r_iret C hr G hf dX0_loopToExit_60
set_option maxRecDepth 100000 in
set_option maxHeartbeats 4000000 in
theorem rX0_loopToExit_13_51 {p : Program} {l : Launch} {e : Env} {s : State} {m : MethodId} {args : Array Value} {below : List Frame} {meth : Method} {c : Code} {D : va_G} {a : Nat → Nat} {cI cJ : ClassId} {tk : Nat} {tf : Nat → Int32} (C : Cx p s m args meth c RX0 cX0_loopToExit 2 D cI cJ tk tf (AR a 25 s.heap.size)) (hr : meth.sig.returnType = (some .int)) : ∀ (q1 : Int32) (S : St) (x : Int32 × St) (H : Heap) (locs : List Loc) (ls : Array Slot), fX0_loopToExit_13_51 q1 S = some x → Wd D (wE a cI cJ) (AR a 25 s.heap.size) s S H locs → lv_has ls 2 [(1, .int q1)] → W p l e { frames := 0, cells := 0, slots := 0, locals := 0 } s m args below meth c H locs 0 0 (MQ below (Qi D (wE a cI cJ) (AR a 25 s.heap.size) x) args s 0 0 (AR a 25 s.heap.size)) (F0 m 51 ls []) := by
  intro q1 S x H locs ls hf G hl
  unfold fX0_loopToExit_13_51 at hf
  refine lv_iload_n C.1 C.2.1 dX0_loopToExit_51 rfl (lv_at hl 0 rfl) ?_
  exact r_iret C hr G hf dX0_loopToExit_52
set_option maxRecDepth 100000 in
set_option maxHeartbeats 4000000 in
theorem rX0_loopToExit_13_7 {p : Program} {l : Launch} {e : Env} {s : State} {m : MethodId} {args : Array Value} {below : List Frame} {meth : Method} {c : Code} {D : va_G} {a : Nat → Nat} {cI cJ : ClassId} {tk : Nat} {tf : Nat → Int32} (C : Cx p s m args meth c RX0 cX0_loopToExit 2 D cI cJ tk tf (AR a 25 s.heap.size)) (hr : meth.sig.returnType = (some .int)) : ∀ (n : Nat) (q1 : Int32) (S : St) (x : Int32 × St) (H : Heap) (locs : List Loc) (ls : Array Slot), fX0_loopToExit_13_7 n q1 S = some x → Wd D (wE a cI cJ) (AR a 25 s.heap.size) s S H locs → lv_has ls 2 [(0, .ref (a 13)), (1, .int q1)] → W p l e { frames := 0, cells := 0, slots := 0, locals := 0 } s m args below meth c H locs 0 0 (MQ below (Qi D (wE a cI cJ) (AR a 25 s.heap.size) x) args s 0 0 (AR a 25 s.heap.size)) (F0 m 7 ls []) := by
  intro n
  induction n with
  | zero => intro q1 S x H locs ls hf G hl; cases hf
  | succ n ih =>
    intro q1 S x H locs ls hf G hl
    rw [fX0_loopToExit_13_7.eq_2] at hf
    refine lv_iload_n C.1 C.2.1 dX0_loopToExit_7 rfl (lv_at hl 1 rfl) ?_
    refine lv_if_lt (tgt := 59) C.1 C.2.1 dX0_loopToExit_8 (by decide) (fun c1 => ?_) (fun c1 => ?_)
    · replace hf := ifp c1 hf
      exact rX0_loopToExit_13_59 C hr S _ _ _ _ hf G (lv_sub hl [] rfl)
    · replace hf := ifq c1 hf
      refine lv_aload_n C.1 C.2.1 dX0_loopToExit_11 rfl (lv_at hl 0 rfl) ?_
      refine gE_13_0 C G k_168 dX0_loopToExit_12 ?_
      refine lv_iload_n C.1 C.2.1 dX0_loopToExit_15 rfl (lv_at hl 1 rfl) ?_
      obtain ⟨hi2, hf⟩ := ifn hf
      refine aE_14 C G hi2 dX0_loopToExit_16 ?_
      refine lv_iconst (v := 3) C.1 C.2.1 dX0_loopToExit_17 (by decide) ?_
      refine lv_icmp_eq (tgt := 59) C.1 C.2.1 dX0_loopToExit_18 (by decide) (fun c3 => ?_) (fun c3 => ?_)
      · replace hf := ifp c3 hf
        exact rX0_loopToExit_13_59 C hr S _ _ _ _ hf G (lv_sub hl [] rfl)
      · replace hf := ifq c3 hf
        refine lv_aload_n C.1 C.2.1 dX0_loopToExit_21 rfl (lv_at hl 0 rfl) ?_
        refine gE_13_0 C G k_168 dX0_loopToExit_22 ?_
        refine lv_iload_n C.1 C.2.1 dX0_loopToExit_25 rfl (lv_at hl 1 rfl) ?_
        obtain ⟨hi4, hf⟩ := ifn hf
        refine aE_14 C G hi4 dX0_loopToExit_26 ?_
        refine lv_iconst (v := 4) C.1 C.2.1 dX0_loopToExit_27 (by decide) ?_
        refine lv_icmp_eq (tgt := 59) C.1 C.2.1 dX0_loopToExit_28 (by decide) (fun c5 => ?_) (fun c5 => ?_)
        · replace hf := ifp c5 hf
          exact rX0_loopToExit_13_59 C hr S _ _ _ _ hf G (lv_sub hl [] rfl)
        · replace hf := ifq c5 hf
          refine lv_aload_n C.1 C.2.1 dX0_loopToExit_31 rfl (lv_at hl 0 rfl) ?_
          refine gE_13_0 C G k_168 dX0_loopToExit_32 ?_
          refine lv_iload_n C.1 C.2.1 dX0_loopToExit_35 rfl (lv_at hl 1 rfl) ?_
          obtain ⟨hi6, hf⟩ := ifn hf
          refine aE_14 C G hi6 dX0_loopToExit_36 ?_
          refine lv_iconst (v := 1) C.1 C.2.1 dX0_loopToExit_37 (by decide) ?_
          refine lv_icmp_eq (tgt := 51) C.1 C.2.1 dX0_loopToExit_38 (by decide) (fun c7 => ?_) (fun c7 => ?_)
          · replace hf := ifp c7 hf
            exact rX0_loopToExit_13_51 C hr q1 S _ _ _ _ hf G (lv_sub hl [1] rfl)
          · replace hf := ifq c7 hf
            refine lv_aload_n C.1 C.2.1 dX0_loopToExit_41 rfl (lv_at hl 0 rfl) ?_
            refine gE_13_0 C G k_168 dX0_loopToExit_42 ?_
            refine lv_iload_n C.1 C.2.1 dX0_loopToExit_45 rfl (lv_at hl 1 rfl) ?_
            obtain ⟨hi8, hf⟩ := ifn hf
            refine aE_14 C G hi8 dX0_loopToExit_46 ?_
            refine lv_iconst (v := 2) C.1 C.2.1 dX0_loopToExit_47 (by decide) ?_
            refine lv_icmp_ne (tgt := 53) C.1 C.2.1 dX0_loopToExit_48 (by decide) (fun c9 => ?_) (fun c9 => ?_)
            · replace hf := ifq c9 hf
              obtain ⟨y10, ey10, hf⟩ := stv_e hf
              refine lv_iinc (v := y10) (lv' := [(1, .int y10), (0, .ref (a 13))]) C.1 C.2.1 dX0_loopToExit_53 hl (k := 1) rfl (by rw [ey10]; rfl) (by decide) rfl (fun ls hl => ?_)
              refine lv_goto (tgt := 7) C.1 C.2.1 dX0_loopToExit_56 (by decide) ?_
              exact ih y10 S _ _ _ _ hf G (lv_sub hl [1, 0] rfl)
            · replace hf := ifp c9 hf
              exact rX0_loopToExit_13_51 C hr q1 S _ _ _ _ hf G (lv_sub hl [1] rfl)
set_option maxRecDepth 100000 in
set_option maxHeartbeats 4000000 in
theorem mX0_loopToExit_13 (l : Launch) (D : va_G) (a : Nat → Nat) (cI cJ : ClassId) (tk : Nat) (tf : Nat → Int32) (S : St) (x : Int32 × St) (hf : fX0_loopToExit_13 S = some x) : Mi l D (wE a cI cJ) a 25 cI cJ tk tf yX0_loopToExit cX0_loopToExit 2 (some .int) { frames := 0, cells := 0, slots := 0, locals := 0 } [.ref (a 13)] S x := by
  refine opn_i (by decide +kernel) (Nat.le_of_ble_eq_true rfl) (fun p e s m below meth c C hr G ls hl => ?_)
  replace hl : lv_has ls 2 [(0, .ref (a 13))] := hl
  unfold fX0_loopToExit_13 at hf
  refine lv_aload_n C.1 C.2.1 dX0_loopToExit_0 rfl (lv_at hl 0 rfl) ?_
  refine gE_13_6 C G k_174 dX0_loopToExit_1 ?_
  refine lv_iconst (v := 1) C.1 C.2.1 dX0_loopToExit_4 (by decide) ?_
  refine lv_isub C.1 C.2.1 dX0_loopToExit_5 ?_
  obtain ⟨y1, ey1, hf⟩ := stv_e hf
  refine nm_i ey1 ?_
  refine lv_istore_n (lv' := [(1, .int y1), (0, .ref (a 13))]) C.1 C.2.1 dX0_loopToExit_6 rfl hl (by decide) rfl (fun ls hl => ?_)
  exact rX0_loopToExit_13_7 C hr 500 y1 S _ _ _ _ hf G (lv_sub hl [1, 0] rfl)
set_option maxRecDepth 100000 in
set_option maxHeartbeats 4000000 in
theorem mX7_exitLoop_0 (l : Launch) (D : va_G) (a : Nat → Nat) (cI cJ : ClassId) (tk : Nat) (tf : Nat → Int32) (S : St) (x : Int32 × St) (hf : fX7_exitLoop_0 S = some x) : Mi l D (wE a cI cJ) a 25 cI cJ tk tf yX7_exitLoop cX7_exitLoop 2 (some .int) { frames := 1, cells := 0, slots := 0, locals := 21 } [.ref (a 0)] S x := by
  refine opn_i (by decide +kernel) (Nat.le_of_ble_eq_true rfl) (fun p e s m below meth c C hr G ls hl => ?_)
  replace hl : lv_has ls 2 [(0, .ref (a 0))] := hl
  unfold fX7_exitLoop_0 at hf
  refine lv_aload_n C.1 C.2.1 dX7_exitLoop_0 rfl (lv_at hl 0 rfl) ?_
  refine gE_0_5 C G k_226 dX7_exitLoop_1 ?_
  obtain ⟨r1, S1, eS1, hf⟩ := bnd_e hf
  refine r_cali (As := []) (na := 0) C adE G (mX0_loopToExit_13 l D a cI cJ tk tf S _ eS1) k_433 k_434 k_435 k_66 k_436 (q0 := 13) rfl (ci := 0) rfl (by decide +kernel) ⟨Nat.le_of_ble_eq_true rfl, Nat.le_of_ble_eq_true rfl⟩ rfl rfl ⟨Nat.zero_le _, Nat.zero_le _⟩ rfl hl.1 rfl (Nat.le_of_ble_eq_true rfl) dX7_exitLoop_4 (fun H locs G => ?_)
  refine lv_istore_n (lv' := [(1, .int r1), (0, .ref (a 0))]) C.1 C.2.1 dX7_exitLoop_7 rfl hl (by decide) rfl (fun ls hl => ?_)
  refine lv_iload_n C.1 C.2.1 dX7_exitLoop_8 rfl (lv_at hl 0 rfl) ?_
  refine lv_iconst (v := (-1)) C.1 C.2.1 dX7_exitLoop_9 (by decide) ?_
  refine lv_icmp_ne (tgt := 16) C.1 C.2.1 dX7_exitLoop_10 (by decide) (fun c2 => ?_) (fun c2 => ?_)
  · replace hf := ifq c2 hf
    refine lv_aload_n C.1 C.2.1 dX7_exitLoop_16 rfl (lv_at hl 1 rfl) ?_
    refine gE_0_5 C G k_226 dX7_exitLoop_17 ?_
    refine lv_iload_n C.1 C.2.1 dX7_exitLoop_20 rfl (lv_at hl 0 rfl) ?_
    obtain ⟨r3, S3, eS3, hf⟩ := bnd_e hf
    refine r_calv (As := [.int r1]) (na := 1) C adE G (mX0_cutTo_13 l D a cI cJ tk tf r1 S1 _ eS3) k_437 k_438 k_439 k_66 k_440 (q0 := 13) rfl (ci := 0) rfl (by decide +kernel) ⟨Nat.le_of_ble_eq_true rfl, Nat.le_of_ble_eq_true rfl⟩ rfl rfl ⟨Nat.zero_le _, Nat.zero_le _⟩ rfl hl.1 rfl (Nat.le_of_ble_eq_true rfl) dX7_exitLoop_21 (fun H locs G => ?_)
    refine lv_iconst (v := 0) C.1 C.2.1 dX7_exitLoop_24 (by decide) ?_
    exact r_iret C hr G hf dX7_exitLoop_25
  · replace hf := ifp c2 hf
    refine lv_bipush (v := 9) C.1 C.2.1 dX7_exitLoop_13 (by decide) ?_
    exact r_iret C hr G hf dX7_exitLoop_15
set_option maxRecDepth 100000 in
set_option maxHeartbeats 4000000 in
theorem mX0_countBy_13 (l : Launch) (D : va_G) (a : Nat → Nat) (cI cJ : ClassId) (tk : Nat) (tf : Nat → Int32) (p1 : Int32) (p2 : Int32) (p3 : Int32) (S : St) (x : Int32 × St) (hf : fX0_countBy_13 p1 p2 p3 S = some x) : Mv l D (wE a cI cJ) a 25 cI cJ tk tf yX0_countBy cX0_countBy 4 { frames := 0, cells := 0, slots := 0, locals := 0 } [.ref (a 13), .int p1, .int p2, .int p3] S x := by
  refine opn_v (by decide +kernel) (Nat.le_of_ble_eq_true rfl) (fun p e s m below meth c C hr G ls hl => ?_)
  replace hl : lv_has ls 4 [(0, .ref (a 13)), (1, .int p1), (2, .int p2), (3, .int p3)] := hl
  unfold fX0_countBy_13 at hf
  refine lv_aload_n C.1 C.2.1 dX0_countBy_0 rfl (lv_at hl 0 rfl) ?_
  refine gE_13_6 C G k_174 dX0_countBy_1 ?_
  refine lv_if_le (tgt := 44) C.1 C.2.1 dX0_countBy_4 (by decide) (fun c1 => ?_) (fun c1 => ?_)
  · replace hf := ifp c1 hf
    exact r_vret C hr G hf dX0_countBy_44
  · replace hf := ifq c1 hf
    refine lv_aload_n C.1 C.2.1 dX0_countBy_7 rfl (lv_at hl 0 rfl) ?_
    refine gE_13_3 C G k_171 dX0_countBy_8 ?_
    refine lv_aload_n C.1 C.2.1 dX0_countBy_11 rfl (lv_at hl 0 rfl) ?_
    refine gE_13_6 C G k_174 dX0_countBy_12 ?_
    refine lv_iconst (v := 1) C.1 C.2.1 dX0_countBy_15 (by decide) ?_
    refine lv_isub C.1 C.2.1 dX0_countBy_16 ?_
    refine lv_iload_n C.1 C.2.1 dX0_countBy_17 rfl (lv_at hl 1 rfl) ?_
    refine lv_i2l C.1 C.2.1 dX0_countBy_18 rfl ?_
    obtain ⟨hi2, hf⟩ := ifn hf
    refine sE_17 C G hi2 dX0_countBy_19 (fun H locs G => ?_)
    obtain ⟨S2, eS2, hf⟩ := stp_e hf
    rw [← eS2] at G
    clear eS2
    refine lv_aload_n C.1 C.2.1 dX0_countBy_20 rfl (lv_at hl 0 rfl) ?_
    refine gE_13_4 C G k_172 dX0_countBy_21 ?_
    refine lv_aload_n C.1 C.2.1 dX0_countBy_24 rfl (lv_at hl 0 rfl) ?_
    refine gE_13_6 C G k_174 dX0_countBy_25 ?_
    refine lv_iconst (v := 1) C.1 C.2.1 dX0_countBy_28 (by decide) ?_
    refine lv_isub C.1 C.2.1 dX0_countBy_29 ?_
    refine lv_iload_n C.1 C.2.1 dX0_countBy_30 rfl (lv_at hl 2 rfl) ?_
    obtain ⟨hi3, hf⟩ := ifn hf
    refine sE_18 C G hi3 dX0_countBy_31 (fun H locs G => ?_)
    obtain ⟨S3, eS3, hf⟩ := stp_e hf
    rw [← eS3] at G
    clear eS3
    refine lv_aload_n C.1 C.2.1 dX0_countBy_32 rfl (lv_at hl 0 rfl) ?_
    refine gE_13_5 C G k_173 dX0_countBy_33 ?_
    refine lv_aload_n C.1 C.2.1 dX0_countBy_36 rfl (lv_at hl 0 rfl) ?_
    refine gE_13_6 C G k_174 dX0_countBy_37 ?_
    refine lv_iconst (v := 1) C.1 C.2.1 dX0_countBy_40 (by decide) ?_
    refine lv_isub C.1 C.2.1 dX0_countBy_41 ?_
    refine lv_iload_n C.1 C.2.1 dX0_countBy_42 rfl (lv_at hl 3 rfl) ?_
    obtain ⟨hi4, hf⟩ := ifn hf
    refine sE_19 C G hi4 dX0_countBy_43 (fun H locs G => ?_)
    obtain ⟨S4, eS4, hf⟩ := stp_e hf
    rw [← eS4] at G
    clear eS4
    exact r_vret C hr G hf dX0_countBy_44
set_option maxRecDepth 100000 in
set_option maxHeartbeats 4000000 in
theorem mX7_beginLoop_0 (l : Launch) (D : va_G) (a : Nat → Nat) (cI cJ : ClassId) (tk : Nat) (tf : Nat → Int32) (p1 : Int32) (p2 : Int32) (p3 : Int32) (p4 : Int32) (p5 : Int32) (S : St) (x : Int32 × St) (hf : fX7_beginLoop_0 p1 p2 p3 p4 p5 S = some x) : Mi l D (wE a cI cJ) a 25 cI cJ tk tf yX7_beginLoop cX7_beginLoop 6 (some .int) { frames := 1, cells := 0, slots := 0, locals := 23 } [.ref (a 0), .int p1, .int p2, .int p3, .int p4, .int p5] S x := by
  refine opn_i (by decide +kernel) (Nat.le_of_ble_eq_true rfl) (fun p e s m below meth c C hr G ls hl => ?_)
  replace hl : lv_has ls 6 [(0, .ref (a 0)), (1, .int p1), (2, .int p2), (3, .int p3), (4, .int p4), (5, .int p5)] := hl
  unfold fX7_beginLoop_0 at hf
  refine lv_aload_n C.1 C.2.1 dX7_beginLoop_0 rfl (lv_at hl 0 rfl) ?_
  refine gE_0_5 C G k_226 dX7_beginLoop_1 ?_
  refine lv_iconst (v := 1) C.1 C.2.1 dX7_beginLoop_4 (by decide) ?_
  obtain ⟨r1, S1, eS1, hf⟩ := bnd_e hf
  refine r_cali (As := [.int (1 : Int32)]) (na := 1) C adE G (mX0_roomFor_13 l D a cI cJ tk tf (1 : Int32) S _ eS1) k_386 k_387 k_388 k_66 k_389 (q0 := 13) rfl (ci := 0) rfl (by decide +kernel) ⟨Nat.le_of_ble_eq_true rfl, Nat.le_of_ble_eq_true rfl⟩ rfl rfl ⟨Nat.zero_le _, Nat.zero_le _⟩ rfl hl.1 rfl (Nat.le_of_ble_eq_true rfl) dX7_beginLoop_5 (fun H locs G => ?_)
  refine lv_if_ne (tgt := 14) C.1 C.2.1 dX7_beginLoop_8 (by decide) (fun c2 => ?_) (fun c2 => ?_)
  · replace hf := ifq c2 hf
    refine lv_aload_n C.1 C.2.1 dX7_beginLoop_14 rfl (lv_at hl 0 rfl) ?_
    refine gE_0_5 C G k_226 dX7_beginLoop_15 ?_
    refine lv_iload_n C.1 C.2.1 dX7_beginLoop_18 rfl (lv_at hl 1 rfl) ?_
    refine lv_aload_n C.1 C.2.1 dX7_beginLoop_19 rfl (lv_at hl 0 rfl) ?_
    refine gE_0_2 C G k_223 dX7_beginLoop_20 ?_
    refine lv_iconst (v := 0) C.1 C.2.1 dX7_beginLoop_23 (by decide) ?_
    obtain ⟨r3, S3, eS3, hf⟩ := bnd_e hf
    refine r_cali (As := [.int (0 : Int32)]) (na := 1) C adE G (mX2_numberUnder_5 l D a cI cJ tk tf (0 : Int32) S1 _ eS3) k_378 k_379 k_380 k_62 k_381 (q0 := 5) rfl (ci := 2) rfl (by decide +kernel) ⟨Nat.le_of_ble_eq_true rfl, Nat.le_of_ble_eq_true rfl⟩ rfl rfl ⟨Nat.zero_le _, Nat.zero_le _⟩ rfl hl.1 rfl (Nat.le_of_ble_eq_true rfl) dX7_beginLoop_24 (fun H locs G => ?_)
    obtain ⟨r4, S4, eS4, hf⟩ := bnd_e hf
    refine r_calv (As := [.int p1, .int r3]) (na := 2) C adE G (mX0_add_13 l D a cI cJ tk tf p1 r3 S3 _ eS4) k_390 k_313 k_314 k_66 k_315 (q0 := 13) rfl (ci := 0) rfl (by decide +kernel) ⟨Nat.le_of_ble_eq_true rfl, Nat.le_of_ble_eq_true rfl⟩ rfl rfl ⟨Nat.zero_le _, Nat.zero_le _⟩ rfl hl.1 rfl (Nat.le_of_ble_eq_true rfl) dX7_beginLoop_27 (fun H locs G => ?_)
    refine lv_aload_n C.1 C.2.1 dX7_beginLoop_30 rfl (lv_at hl 0 rfl) ?_
    refine gE_0_5 C G k_226 dX7_beginLoop_31 ?_
    refine lv_iload_n C.1 C.2.1 dX7_beginLoop_34 rfl (lv_at hl 2 rfl) ?_
    refine lv_iload_n C.1 C.2.1 dX7_beginLoop_35 rfl (lv_at hl 3 rfl) ?_
    refine lv_iload C.1 C.2.1 dX7_beginLoop_36 (lv_at hl 4 rfl) ?_
    obtain ⟨r5, S5, eS5, hf⟩ := bnd_e hf
    refine r_calv (As := [.int p2, .int p3, .int p4]) (na := 3) C adE G (mX0_countBy_13 l D a cI cJ tk tf p2 p3 p4 S4 _ eS5) k_421 k_422 k_423 k_66 k_424 (q0 := 13) rfl (ci := 0) rfl (by decide +kernel) ⟨Nat.le_of_ble_eq_true rfl, Nat.le_of_ble_eq_true rfl⟩ rfl rfl ⟨Nat.zero_le _, Nat.zero_le _⟩ rfl hl.1 rfl (Nat.le_of_ble_eq_true rfl) dX7_beginLoop_38 (fun H locs G => ?_)
    refine lv_aload_n C.1 C.2.1 dX7_beginLoop_41 rfl (lv_at hl 0 rfl) ?_
    refine gE_0_2 C G k_223 dX7_beginLoop_42 ?_
    refine lv_iload C.1 C.2.1 dX7_beginLoop_45 (lv_at hl 5 rfl) ?_
    obtain ⟨r6, S6, eS6, hf⟩ := bnd_e hf
    refine r_calv (As := [.int p5]) (na := 1) C adE G (mX2_takeOff_5 l D a cI cJ tk tf p5 S5 _ eS6) k_300 k_301 k_302 k_62 k_303 (q0 := 5) rfl (ci := 2) rfl (by decide +kernel) ⟨Nat.le_of_ble_eq_true rfl, Nat.le_of_ble_eq_true rfl⟩ rfl rfl ⟨Nat.zero_le _, Nat.zero_le _⟩ rfl hl.1 rfl (Nat.le_of_ble_eq_true rfl) dX7_beginLoop_47 (fun H locs G => ?_)
    refine lv_iconst (v := 0) C.1 C.2.1 dX7_beginLoop_50 (by decide) ?_
    exact r_iret C hr G hf dX7_beginLoop_51
  · replace hf := ifp c2 hf
    refine lv_bipush (v := 8) C.1 C.2.1 dX7_beginLoop_11 (by decide) ?_
    exact r_iret C hr G hf dX7_beginLoop_13
set_option maxRecDepth 100000 in
set_option maxHeartbeats 4000000 in
theorem mX7_countThrough_0 (l : Launch) (D : va_G) (a : Nat → Nat) (cI cJ : ClassId) (tk : Nat) (tf : Nat → Int32) (p1 : Int32) (p2 : Int32) (p3 : Int32) (S : St) (x : Int32 × St) (hf : fX7_countThrough_0 p1 p2 p3 S = some x) : Mi l D (wE a cI cJ) a 25 cI cJ tk tf yX7_countThrough cX7_countThrough 4 (some .int) { frames := 2, cells := 0, slots := 0, locals := 48 } [.ref (a 0), .int p1, .int p2, .int p3] S x := by
  refine opn_i (by decide +kernel) (Nat.le_of_ble_eq_true rfl) (fun p e s m below meth c C hr G ls hl => ?_)
  replace hl : lv_has ls 4 [(0, .ref (a 0)), (1, .int p1), (2, .int p2), (3, .int p3)] := hl
  unfold fX7_countThrough_0 at hf
  refine lv_iload_n C.1 C.2.1 dX7_countThrough_0 rfl (lv_at hl 2 rfl) ?_
  refine lv_if_ne (tgt := 8) C.1 C.2.1 dX7_countThrough_1 (by decide) (fun c1 => ?_) (fun c1 => ?_)
  · replace hf := ifq c1 hf
    refine lv_aload_n C.1 C.2.1 dX7_countThrough_8 rfl (lv_at hl 0 rfl) ?_
    refine lv_iconst (v := 2) C.1 C.2.1 dX7_countThrough_9 (by decide) ?_
    refine lv_iload_n C.1 C.2.1 dX7_countThrough_10 rfl (lv_at hl 1 rfl) ?_
    refine lv_iload_n C.1 C.2.1 dX7_countThrough_11 rfl (lv_at hl 2 rfl) ?_
    refine lv_iload_n C.1 C.2.1 dX7_countThrough_12 rfl (lv_at hl 3 rfl) ?_
    refine lv_iconst (v := 4) C.1 C.2.1 dX7_countThrough_13 (by decide) ?_
    obtain ⟨r2, S2, eS2, hf⟩ := bnd_e hf
    refine r_cali (As := [.int (2 : Int32), .int p1, .int p2, .int p3, .int (4 : Int32)]) (na := 5) C adE G (mX7_beginLoop_0 l D a cI cJ tk tf (2 : Int32) p1 p2 p3 (4 : Int32) S _ eS2) k_417 k_419 k_9 k_59 k_420 (q0 := 0) rfl (ci := 7) rfl (by decide +kernel) ⟨Nat.le_of_ble_eq_true rfl, Nat.le_of_ble_eq_true rfl⟩ rfl rfl ⟨Nat.zero_le _, Nat.zero_le _⟩ rfl hl.1 rfl (Nat.le_of_ble_eq_true rfl) dX7_countThrough_14 (fun H locs G => ?_)
    exact r_iret C hr G hf dX7_countThrough_17
  · replace hf := ifp c1 hf
    refine lv_iconst (v := 4) C.1 C.2.1 dX7_countThrough_4 (by decide) ?_
    refine lv_goto (tgt := 17) C.1 C.2.1 dX7_countThrough_5 (by decide) ?_
    exact r_iret C hr G hf dX7_countThrough_17
set_option maxRecDepth 100000 in
set_option maxHeartbeats 4000000 in
theorem mX7_repeat_0 (l : Launch) (D : va_G) (a : Nat → Nat) (cI cJ : ClassId) (tk : Nat) (tf : Nat → Int32) (p1 : Int32) (S : St) (x : Int32 × St) (hf : fX7_repeat_0 p1 S = some x) : Mi l D (wE a cI cJ) a 25 cI cJ tk tf yX7_repeat cX7_repeat 2 (some .int) { frames := 2, cells := 0, slots := 0, locals := 48 } [.ref (a 0), .int p1] S x := by
  refine opn_i (by decide +kernel) (Nat.le_of_ble_eq_true rfl) (fun p e s m below meth c C hr G ls hl => ?_)
  replace hl : lv_has ls 2 [(0, .ref (a 0)), (1, .int p1)] := hl
  unfold fX7_repeat_0 at hf
  refine lv_iload_n C.1 C.2.1 dX7_repeat_0 rfl (lv_at hl 1 rfl) ?_
  refine lv_if_ge (tgt := 8) C.1 C.2.1 dX7_repeat_1 (by decide) (fun c1 => ?_) (fun c1 => ?_)
  · replace hf := ifp c1 hf
    refine lv_aload_n C.1 C.2.1 dX7_repeat_8 rfl (lv_at hl 0 rfl) ?_
    refine lv_iconst (v := 1) C.1 C.2.1 dX7_repeat_9 (by decide) ?_
    refine lv_iconst (v := 1) C.1 C.2.1 dX7_repeat_10 (by decide) ?_
    refine lv_iconst (v := 1) C.1 C.2.1 dX7_repeat_11 (by decide) ?_
    refine lv_iload_n C.1 C.2.1 dX7_repeat_12 rfl (lv_at hl 1 rfl) ?_
    refine lv_iconst (v := 2) C.1 C.2.1 dX7_repeat_13 (by decide) ?_
    obtain ⟨r2, S2, eS2, hf⟩ := bnd_e hf
    refine r_cali (As := [.int (1 : Int32), .int (1 : Int32), .int (1 : Int32), .int p1, .int (2 : Int32)]) (na := 5) C adE G (mX7_beginLoop_0 l D a cI cJ tk tf (1 : Int32) (1 : Int32) (1 : Int32) p1 (2 : Int32) S _ eS2) k_417 k_419 k_9 k_59 k_420 (q0 := 0) rfl (ci := 7) rfl (by decide +kernel) ⟨Nat.le_of_ble_eq_true rfl, Nat.le_of_ble_eq_true rfl⟩ rfl rfl ⟨Nat.zero_le _, Nat.zero_le _⟩ rfl hl.1 rfl (Nat.le_of_ble_eq_true rfl) dX7_repeat_14 (fun H locs G => ?_)
    exact r_iret C hr G hf dX7_repeat_17
  · replace hf := ifq c1 hf
    refine lv_iconst (v := 4) C.1 C.2.1 dX7_repeat_4 (by decide) ?_
    refine lv_goto (tgt := 17) C.1 C.2.1 dX7_repeat_5 (by decide) ?_
    exact r_iret C hr G hf dX7_repeat_17
set_option maxRecDepth 100000 in
set_option maxHeartbeats 4000000 in
theorem rX7_begin_0_68 {p : Program} {l : Launch} {e : Env} {s : State} {m : MethodId} {args : Array Value} {below : List Frame} {meth : Method} {c : Code} {D : va_G} {a : Nat → Nat} {cI cJ : ClassId} {tk : Nat} {tf : Nat → Int32} (C : Cx p s m args meth c RX7 cX7_begin 4 D cI cJ tk tf (AR a 25 s.heap.size)) (hr : meth.sig.returnType = (some .int)) : ∀ (q1 : Int32) (q2 : Int32) (S : St) (x : Int32 × St) (H : Heap) (locs : List Loc) (ls : Array Slot), fX7_begin_0_68 q1 q2 S = some x → Wd D (wE a cI cJ) (AR a 25 s.heap.size) s S H locs → lv_has ls 4 [(0, .ref (a 0)), (1, .int q1), (2, .int q2)] → W p l e { frames := 1, cells := 0, slots := 0, locals := 22 } s m args below meth c H locs 0 0 (MQ below (Qi D (wE a cI cJ) (AR a 25 s.heap.size) x) args s 0 0 (AR a 25 s.heap.size)) (F0 m 68 ls []) := by
  intro q1 q2 S x H locs ls hf G hl
  unfold fX7_begin_0_68 at hf
  refine lv_aload_n C.1 C.2.1 dX7_begin_68 rfl (lv_at hl 0 rfl) ?_
  refine gE_0_2 C G k_223 dX7_begin_69 ?_
  refine lv_iload_n C.1 C.2.1 dX7_begin_72 rfl (lv_at hl 2 rfl) ?_
  obtain ⟨r1, S1, eS1, hf⟩ := bnd_e hf
  refine r_calv (As := [.int q2]) (na := 1) C adE G (mX2_takeOff_5 l D a cI cJ tk tf q2 S _ eS1) k_300 k_301 k_302 k_62 k_303 (q0 := 5) rfl (ci := 2) rfl (by decide +kernel) ⟨Nat.le_of_ble_eq_true rfl, Nat.le_of_ble_eq_true rfl⟩ rfl rfl ⟨Nat.zero_le _, Nat.zero_le _⟩ rfl hl.1 rfl (Nat.le_of_ble_eq_true rfl) dX7_begin_73 (fun H locs G => ?_)
  refine lv_aload_n C.1 C.2.1 dX7_begin_76 rfl (lv_at hl 0 rfl) ?_
  refine gE_0_5 C G k_226 dX7_begin_77 ?_
  refine lv_iconst (v := 0) C.1 C.2.1 dX7_begin_80 (by decide) ?_
  refine lv_iload_n C.1 C.2.1 dX7_begin_81 rfl (lv_at hl 1 rfl) ?_
  obtain ⟨r2, S2, eS2, hf⟩ := bnd_e hf
  refine r_calv (As := [.int (0 : Int32), .int q1]) (na := 2) C adE G (mX0_add_13 l D a cI cJ tk tf (0 : Int32) q1 S1 _ eS2) k_390 k_313 k_314 k_66 k_315 (q0 := 13) rfl (ci := 0) rfl (by decide +kernel) ⟨Nat.le_of_ble_eq_true rfl, Nat.le_of_ble_eq_true rfl⟩ rfl rfl ⟨Nat.zero_le _, Nat.zero_le _⟩ rfl hl.1 rfl (Nat.le_of_ble_eq_true rfl) dX7_begin_82 (fun H locs G => ?_)
  refine lv_iconst (v := 0) C.1 C.2.1 dX7_begin_85 (by decide) ?_
  exact r_iret C hr G hf dX7_begin_86
set_option maxRecDepth 100000 in
set_option maxHeartbeats 4000000 in
theorem rX7_begin_0_39 {p : Program} {l : Launch} {e : Env} {s : State} {m : MethodId} {args : Array Value} {below : List Frame} {meth : Method} {c : Code} {D : va_G} {a : Nat → Nat} {cI cJ : ClassId} {tk : Nat} {tf : Nat → Int32} (C : Cx p s m args meth c RX7 cX7_begin 4 D cI cJ tk tf (AR a 25 s.heap.size)) (hr : meth.sig.returnType = (some .int)) : ∀ (q1 : Int32) (q2 : Int32) (z0 : Int32) (S : St) (x : Int32 × St) (H : Heap) (locs : List Loc) (ls : Array Slot), fX7_begin_0_39 q1 q2 z0 S = some x → Wd D (wE a cI cJ) (AR a 25 s.heap.size) s S H locs → lv_has ls 4 [(0, .ref (a 0)), (1, .int q1), (2, .int q2)] → W p l e { frames := 1, cells := 0, slots := 0, locals := 22 } s m args below meth c H locs 0 0 (MQ below (Qi D (wE a cI cJ) (AR a 25 s.heap.size) x) args s 0 0 (AR a 25 s.heap.size)) (F0 m 39 ls [.int z0]) := by
  intro q1 q2 z0 S x H locs ls hf G hl
  unfold fX7_begin_0_39 at hf
  refine lv_istore_n (lv' := [(3, .int z0), (0, .ref (a 0)), (1, .int q1), (2, .int q2)]) C.1 C.2.1 dX7_begin_39 rfl hl (by decide) rfl (fun ls hl => ?_)
  refine lv_iload_n C.1 C.2.1 dX7_begin_40 rfl (lv_at hl 0 rfl) ?_
  refine lv_if_eq (tgt := 54) C.1 C.2.1 dX7_begin_41 (by decide) (fun c1 => ?_) (fun c1 => ?_)
  · replace hf := ifp c1 hf
    refine lv_aload_n C.1 C.2.1 dX7_begin_54 rfl (lv_at hl 1 rfl) ?_
    refine gE_0_5 C G k_226 dX7_begin_55 ?_
    refine lv_iconst (v := 1) C.1 C.2.1 dX7_begin_58 (by decide) ?_
    obtain ⟨r2, S2, eS2, hf⟩ := bnd_e hf
    refine r_cali (As := [.int (1 : Int32)]) (na := 1) C adE G (mX0_roomFor_13 l D a cI cJ tk tf (1 : Int32) S _ eS2) k_386 k_387 k_388 k_66 k_389 (q0 := 13) rfl (ci := 0) rfl (by decide +kernel) ⟨Nat.le_of_ble_eq_true rfl, Nat.le_of_ble_eq_true rfl⟩ rfl rfl ⟨Nat.zero_le _, Nat.zero_le _⟩ rfl hl.1 rfl (Nat.le_of_ble_eq_true rfl) dX7_begin_59 (fun H locs G => ?_)
    refine lv_if_ne (tgt := 68) C.1 C.2.1 dX7_begin_62 (by decide) (fun c3 => ?_) (fun c3 => ?_)
    · replace hf := ifq c3 hf
      exact rX7_begin_0_68 C hr q1 q2 S2 _ _ _ _ hf G (lv_sub hl [1, 2, 3] rfl)
    · replace hf := ifp c3 hf
      refine lv_bipush (v := 8) C.1 C.2.1 dX7_begin_65 (by decide) ?_
      exact r_iret C hr G hf dX7_begin_67
  · replace hf := ifq c1 hf
    refine lv_aload_n C.1 C.2.1 dX7_begin_44 rfl (lv_at hl 1 rfl) ?_
    refine gE_0_5 C G k_226 dX7_begin_45 ?_
    obtain ⟨r4, S4, eS4, hf⟩ := bnd_e hf
    refine r_calv (As := []) (na := 0) C adE G (mX0_takeTop_13 l D a cI cJ tk tf S _ eS4) k_340 k_341 k_342 k_66 k_343 (q0 := 13) rfl (ci := 0) rfl (by decide +kernel) ⟨Nat.le_of_ble_eq_true rfl, Nat.le_of_ble_eq_true rfl⟩ rfl rfl ⟨Nat.zero_le _, Nat.zero_le _⟩ rfl hl.1 rfl (Nat.le_of_ble_eq_true rfl) dX7_begin_48 (fun H locs G => ?_)
    refine lv_goto (tgt := 68) C.1 C.2.1 dX7_begin_51 (by decide) ?_
    exact rX7_begin_0_68 C hr q1 q2 S4 _ _ _ _ hf G (lv_sub hl [1, 2, 3] rfl)
set_option maxRecDepth 100000 in
set_option maxHeartbeats 4000000 in
theorem rX7_begin_0_38 {p : Program} {l : Launch} {e : Env} {s : State} {m : MethodId} {args : Array Value} {below : List Frame} {meth : Method} {c : Code} {D : va_G} {a : Nat → Nat} {cI cJ : ClassId} {tk : Nat} {tf : Nat → Int32} (C : Cx p s m args meth c RX7 cX7_begin 4 D cI cJ tk tf (AR a 25 s.heap.size)) (hr : meth.sig.returnType = (some .int)) : ∀ (q1 : Int32) (q2 : Int32) (S : St) (x : Int32 × St) (H : Heap) (locs : List Loc) (ls : Array Slot), fX7_begin_0_38 q1 q2 S = some x → Wd D (wE a cI cJ) (AR a 25 s.heap.size) s S H locs → lv_has ls 4 [(0, .ref (a 0)), (1, .int q1), (2, .int q2)] → W p l e { frames := 1, cells := 0, slots := 0, locals := 22 } s m args below meth c H locs 0 0 (MQ below (Qi D (wE a cI cJ) (AR a 25 s.heap.size) x) args s 0 0 (AR a 25 s.heap.size)) (F0 m 38 ls []) := by
  intro q1 q2 S x H locs ls hf G hl
  unfold fX7_begin_0_38 at hf
  refine lv_iconst (v := 0) C.1 C.2.1 dX7_begin_38 (by decide) ?_
  exact rX7_begin_0_39 C hr q1 q2 (0 : Int32) S _ _ _ _ hf G (lv_sub hl [0, 1, 2] rfl)
set_option maxRecDepth 100000 in
set_option maxHeartbeats 4000000 in
theorem mX7_begin_0 (l : Launch) (D : va_G) (a : Nat → Nat) (cI cJ : ClassId) (tk : Nat) (tf : Nat → Int32) (p1 : Int32) (p2 : Int32) (S : St) (x : Int32 × St) (hf : fX7_begin_0 p1 p2 S = some x) : Mi l D (wE a cI cJ) a 25 cI cJ tk tf yX7_begin cX7_begin 4 (some .int) { frames := 1, cells := 0, slots := 0, locals := 22 } [.ref (a 0), .int p1, .int p2] S x := by
  refine opn_i (by decide +kernel) (Nat.le_of_ble_eq_true rfl) (fun p e s m below meth c C hr G ls hl => ?_)
  replace hl : lv_has ls 4 [(0, .ref (a 0)), (1, .int p1), (2, .int p2)] := hl
  unfold fX7_begin_0 at hf
  refine lv_aload_n C.1 C.2.1 dX7_begin_0 rfl (lv_at hl 0 rfl) ?_
  refine gE_0_5 C G k_226 dX7_begin_1 ?_
  obtain ⟨r1, S1, eS1, hf⟩ := bnd_e hf
  refine r_cali (As := []) (na := 0) C adE G (mX0_topSort_13 l D a cI cJ tk tf S _ eS1) k_324 k_325 k_326 k_66 k_327 (q0 := 13) rfl (ci := 0) rfl (by decide +kernel) ⟨Nat.le_of_ble_eq_true rfl, Nat.le_of_ble_eq_true rfl⟩ rfl rfl ⟨Nat.zero_le _, Nat.zero_le _⟩ rfl hl.1 rfl (Nat.le_of_ble_eq_true rfl) dX7_begin_4 (fun H locs G => ?_)
  refine lv_if_ne (tgt := 38) C.1 C.2.1 dX7_begin_7 (by decide) (fun c2 => ?_) (fun c2 => ?_)
  · replace hf := ifq c2 hf
    exact rX7_begin_0_38 C hr p1 p2 S1 _ _ _ _ hf G (lv_sub hl [0, 1, 2] rfl)
  · replace hf := ifp c2 hf
    refine lv_aload_n C.1 C.2.1 dX7_begin_10 rfl (lv_at hl 0 rfl) ?_
    refine gE_0_5 C G k_226 dX7_begin_11 ?_
    obtain ⟨r3, S3, eS3, hf⟩ := bnd_e hf
    refine r_cali (As := []) (na := 0) C adE G (mX0_topPlace_13 l D a cI cJ tk tf S1 _ eS3) k_336 k_337 k_338 k_66 k_339 (q0 := 13) rfl (ci := 0) rfl (by decide +kernel) ⟨Nat.le_of_ble_eq_true rfl, Nat.le_of_ble_eq_true rfl⟩ rfl rfl ⟨Nat.zero_le _, Nat.zero_le _⟩ rfl hl.1 rfl (Nat.le_of_ble_eq_true rfl) dX7_begin_14 (fun H locs G => ?_)
    refine lv_aload_n C.1 C.2.1 dX7_begin_17 rfl (lv_at hl 0 rfl) ?_
    refine gE_0_0 C G k_221 dX7_begin_18 ?_
    refine lv_aload_n C.1 C.2.1 dX7_begin_21 rfl (lv_at hl 0 rfl) ?_
    refine gE_0_5 C G k_226 dX7_begin_22 ?_
    obtain ⟨r4, S4, eS4, hf⟩ := bnd_e hf
    refine r_cali (As := []) (na := 0) C adE G (mX0_topSubject_13 l D a cI cJ tk tf S3 _ eS4) k_332 k_333 k_334 k_66 k_335 (q0 := 13) rfl (ci := 0) rfl (by decide +kernel) ⟨Nat.le_of_ble_eq_true rfl, Nat.le_of_ble_eq_true rfl⟩ rfl rfl ⟨Nat.zero_le _, Nat.zero_le _⟩ rfl hl.1 rfl (Nat.le_of_ble_eq_true rfl) dX7_begin_25 (fun H locs G => ?_)
    obtain ⟨r5, S5, eS5, hf⟩ := bnd_e hf
    refine r_cali (As := [.int r4]) (na := 1) C adE G (mX4_length_1 l D a cI cJ tk tf r4 S4 _ eS5) k_266 k_267 k_268 k_60 k_269 (q0 := 1) rfl (ci := 4) rfl (by decide +kernel) ⟨Nat.le_of_ble_eq_true rfl, Nat.le_of_ble_eq_true rfl⟩ rfl rfl ⟨Nat.zero_le _, Nat.zero_le _⟩ rfl hl.1 rfl (Nat.le_of_ble_eq_true rfl) dX7_begin_28 (fun H locs G => ?_)
    refine lv_icmp_lt (tgt := 38) C.1 C.2.1 dX7_begin_31 (by decide) (fun c6 => ?_) (fun c6 => ?_)
    · replace hf := ifp c6 hf
      exact rX7_begin_0_38 C hr p1 p2 S5 _ _ _ _ hf G (lv_sub hl [0, 1, 2] rfl)
    · replace hf := ifq c6 hf
      refine lv_iconst (v := 1) C.1 C.2.1 dX7_begin_34 (by decide) ?_
      refine lv_goto (tgt := 39) C.1 C.2.1 dX7_begin_35 (by decide) ?_
      exact rX7_begin_0_39 C hr p1 p2 (1 : Int32) S5 _ _ _ _ hf G (lv_sub hl [0, 1, 2] rfl)
set_option maxRecDepth 100000 in
set_option maxHeartbeats 4000000 in
theorem mX7_beginIf_0 (l : Launch) (D : va_G) (a : Nat → Nat) (cI cJ : ClassId) (tk : Nat) (tf : Nat → Int32) (S : St) (x : Int32 × St) (hf : fX7_beginIf_0 S = some x) : Mi l D (wE a cI cJ) a 25 cI cJ tk tf yX7_beginIf cX7_beginIf 1 (some .int) { frames := 2, cells := 0, slots := 0, locals := 45 } [.ref (a 0)] S x := by
  refine opn_i (by decide +kernel) (Nat.le_of_ble_eq_true rfl) (fun p e s m below meth c C hr G ls hl => ?_)
  replace hl : lv_has ls 1 [(0, .ref (a 0))] := hl
  unfold fX7_beginIf_0 at hf
  refine lv_aload_n C.1 C.2.1 dX7_beginIf_0 rfl (lv_at hl 0 rfl) ?_
  refine gE_0_2 C G k_223 dX7_beginIf_1 ?_
  refine lv_iconst (v := 1) C.1 C.2.1 dX7_beginIf_4 (by decide) ?_
  obtain ⟨r1, S1, eS1, hf⟩ := bnd_e hf
  refine r_cali (As := [.int (1 : Int32)]) (na := 1) C adE G (mX2_numberUnder_5 l D a cI cJ tk tf (1 : Int32) S _ eS1) k_378 k_379 k_380 k_62 k_381 (q0 := 5) rfl (ci := 2) rfl (by decide +kernel) ⟨Nat.le_of_ble_eq_true rfl, Nat.le_of_ble_eq_true rfl⟩ rfl rfl ⟨Nat.zero_le _, Nat.zero_le _⟩ rfl hl.1 rfl (Nat.le_of_ble_eq_true rfl) dX7_beginIf_5 (fun H locs G => ?_)
  refine lv_iconst (v := 1) C.1 C.2.1 dX7_beginIf_8 (by decide) ?_
  refine lv_icmp_ne (tgt := 26) C.1 C.2.1 dX7_beginIf_9 (by decide) (fun c2 => ?_) (fun c2 => ?_)
  · replace hf := ifq c2 hf
    refine lv_aload_n C.1 C.2.1 dX7_beginIf_26 rfl (lv_at hl 0 rfl) ?_
    refine gE_0_2 C G k_223 dX7_beginIf_27 ?_
    refine lv_iconst (v := 2) C.1 C.2.1 dX7_beginIf_30 (by decide) ?_
    obtain ⟨r5, S5, eS5, hf⟩ := bnd_e hf
    refine r_calv (As := [.int (2 : Int32)]) (na := 1) C adE G (mX2_takeOff_5 l D a cI cJ tk tf (2 : Int32) S1 _ eS5) k_300 k_301 k_302 k_62 k_303 (q0 := 5) rfl (ci := 2) rfl (by decide +kernel) ⟨Nat.le_of_ble_eq_true rfl, Nat.le_of_ble_eq_true rfl⟩ rfl rfl ⟨Nat.zero_le _, Nat.zero_le _⟩ rfl hl.1 rfl (Nat.le_of_ble_eq_true rfl) dX7_beginIf_31 (fun H locs G => ?_)
    refine lv_iconst (v := 0) C.1 C.2.1 dX7_beginIf_34 (by decide) ?_
    exact r_iret C hr G hf dX7_beginIf_35
  · replace hf := ifp c2 hf
    refine lv_aload_n C.1 C.2.1 dX7_beginIf_12 rfl (lv_at hl 0 rfl) ?_
    refine lv_aload_n C.1 C.2.1 dX7_beginIf_13 rfl (lv_at hl 0 rfl) ?_
    refine gE_0_2 C G k_223 dX7_beginIf_14 ?_
    refine lv_iconst (v := 0) C.1 C.2.1 dX7_beginIf_17 (by decide) ?_
    obtain ⟨r3, S3, eS3, hf⟩ := bnd_e hf
    refine r_cali (As := [.int (0 : Int32)]) (na := 1) C adE G (mX2_numberUnder_5 l D a cI cJ tk tf (0 : Int32) S1 _ eS3) k_378 k_379 k_380 k_62 k_381 (q0 := 5) rfl (ci := 2) rfl (by decide +kernel) ⟨Nat.le_of_ble_eq_true rfl, Nat.le_of_ble_eq_true rfl⟩ rfl rfl ⟨Nat.zero_le _, Nat.zero_le _⟩ rfl hl.1 rfl (Nat.le_of_ble_eq_true rfl) dX7_beginIf_18 (fun H locs G => ?_)
    refine lv_iconst (v := 2) C.1 C.2.1 dX7_beginIf_21 (by decide) ?_
    obtain ⟨r4, S4, eS4, hf⟩ := bnd_e hf
    refine r_cali (As := [.int r3, .int (2 : Int32)]) (na := 2) C adE G (mX7_begin_0 l D a cI cJ tk tf r3 (2 : Int32) S3 _ eS4) k_382 k_384 k_6 k_59 k_385 (q0 := 0) rfl (ci := 7) rfl (by decide +kernel) ⟨Nat.le_of_ble_eq_true rfl, Nat.le_of_ble_eq_true rfl⟩ rfl rfl ⟨Nat.zero_le _, Nat.zero_le _⟩ rfl hl.1 rfl (Nat.le_of_ble_eq_true rfl) dX7_beginIf_22 (fun H locs G => ?_)
    exact r_iret C hr G hf dX7_beginIf_25
set_option maxRecDepth 100000 in
set_option maxHeartbeats 4000000 in
theorem mX7_execute_0 (l : Launch) (D : va_G) (a : Nat → Nat) (cI cJ : ClassId) (tk : Nat) (tf : Nat → Int32) (S : St) (x : Int32 × St) (hf : fX7_execute_0 S = some x) : Mi l D (wE a cI cJ) a 25 cI cJ tk tf yX7_execute cX7_execute 3 (some .int) { frames := 2, cells := 0, slots := 0, locals := 45 } [.ref (a 0)] S x := by
  refine opn_i (by decide +kernel) (Nat.le_of_ble_eq_true rfl) (fun p e s m below meth c C hr G ls hl => ?_)
  replace hl : lv_has ls 3 [(0, .ref (a 0))] := hl
  unfold fX7_execute_0 at hf
  refine lv_aload_n C.1 C.2.1 dX7_execute_0 rfl (lv_at hl 0 rfl) ?_
  refine gE_0_2 C G k_223 dX7_execute_1 ?_
  refine lv_iconst (v := 0) C.1 C.2.1 dX7_execute_4 (by decide) ?_
  obtain ⟨r1, S1, eS1, hf⟩ := bnd_e hf
  refine r_cali (As := [.int (0 : Int32)]) (na := 1) C adE G (mX2_kindUnder_5 l D a cI cJ tk tf (0 : Int32) S _ eS1) k_370 k_371 k_372 k_62 k_373 (q0 := 5) rfl (ci := 2) rfl (by decide +kernel) ⟨Nat.le_of_ble_eq_true rfl, Nat.le_of_ble_eq_true rfl⟩ rfl rfl ⟨Nat.zero_le _, Nat.zero_le _⟩ rfl hl.1 rfl (Nat.le_of_ble_eq_true rfl) dX7_execute_5 (fun H locs G => ?_)
  refine lv_istore_n (lv' := [(1, .int r1), (0, .ref (a 0))]) C.1 C.2.1 dX7_execute_8 rfl hl (by decide) rfl (fun ls hl => ?_)
  refine lv_aload_n C.1 C.2.1 dX7_execute_9 rfl (lv_at hl 1 rfl) ?_
  refine gE_0_2 C G k_223 dX7_execute_10 ?_
  refine lv_iconst (v := 0) C.1 C.2.1 dX7_execute_13 (by decide) ?_
  obtain ⟨r2, S2, eS2, hf⟩ := bnd_e hf
  refine r_cali (As := [.int (0 : Int32)]) (na := 1) C adE G (mX2_numberUnder_5 l D a cI cJ tk tf (0 : Int32) S1 _ eS2) k_378 k_379 k_380 k_62 k_381 (q0 := 5) rfl (ci := 2) rfl (by decide +kernel) ⟨Nat.le_of_ble_eq_true rfl, Nat.le_of_ble_eq_true rfl⟩ rfl rfl ⟨Nat.zero_le _, Nat.zero_le _⟩ rfl hl.1 rfl (Nat.le_of_ble_eq_true rfl) dX7_execute_14 (fun H locs G => ?_)
  refine lv_istore_n (lv' := [(2, .int r2), (1, .int r1), (0, .ref (a 0))]) C.1 C.2.1 dX7_execute_17 rfl hl (by decide) rfl (fun ls hl => ?_)
  refine lv_iload_n C.1 C.2.1 dX7_execute_18 rfl (lv_at hl 1 rfl) ?_
  refine lv_iconst (v := 4) C.1 C.2.1 dX7_execute_19 (by decide) ?_
  refine lv_icmp_ne (tgt := 30) C.1 C.2.1 dX7_execute_20 (by decide) (fun c3 => ?_) (fun c3 => ?_)
  · replace hf := ifq c3 hf
    refine lv_iload_n C.1 C.2.1 dX7_execute_30 rfl (lv_at hl 1 rfl) ?_
    refine lv_iconst (v := 2) C.1 C.2.1 dX7_execute_31 (by decide) ?_
    refine lv_icmp_eq (tgt := 37) C.1 C.2.1 dX7_execute_32 (by decide) (fun c5 => ?_) (fun c5 => ?_)
    · replace hf := ifp c5 hf
      refine lv_aload_n C.1 C.2.1 dX7_execute_37 rfl (lv_at hl 2 rfl) ?_
      refine gE_0_3 C G k_224 dX7_execute_38 ?_
      refine lv_iload_n C.1 C.2.1 dX7_execute_41 rfl (lv_at hl 0 rfl) ?_
      obtain ⟨r6, S6, eS6, hf⟩ := bnd_e hf
      refine r_cali (As := [.int r2]) (na := 1) C adE G (mX6_kindOf_8 l D a cI cJ tk tf r2 S2 _ eS6) k_391 k_392 k_393 k_63 k_394 (q0 := 8) rfl (ci := 6) rfl (by decide +kernel) ⟨Nat.le_of_ble_eq_true rfl, Nat.le_of_ble_eq_true rfl⟩ rfl rfl ⟨Nat.zero_le _, Nat.zero_le _⟩ rfl hl.1 rfl (Nat.le_of_ble_eq_true rfl) dX7_execute_42 (fun H locs G => ?_)
      refine lv_iconst (v := 4) C.1 C.2.1 dX7_execute_45 (by decide) ?_
      refine lv_icmp_ne (tgt := 63) C.1 C.2.1 dX7_execute_46 (by decide) (fun c7 => ?_) (fun c7 => ?_)
      · replace hf := ifq c7 hf
        refine lv_aload_n C.1 C.2.1 dX7_execute_63 rfl (lv_at hl 2 rfl) ?_
        refine gE_0_1 C G k_222 dX7_execute_64 ?_
        refine lv_iload_n C.1 C.2.1 dX7_execute_67 rfl (lv_at hl 0 rfl) ?_
        obtain ⟨r10, S10, eS10, hf⟩ := bnd_e hf
        refine r_cali (As := [.int r2]) (na := 1) C adE G (mX3_lookUp_24 l D a cI cJ tk tf r2 S6 _ eS10) k_399 k_400 k_401 k_61 k_402 (q0 := 24) rfl (ci := 3) rfl (by decide +kernel) ⟨Nat.le_of_ble_eq_true rfl, Nat.le_of_ble_eq_true rfl⟩ rfl rfl ⟨Nat.zero_le _, Nat.zero_le _⟩ rfl hl.1 rfl (Nat.le_of_ble_eq_true rfl) dX7_execute_68 (fun H locs G => ?_)
        exact r_iret C hr G hf dX7_execute_71
      · replace hf := ifp c7 hf
        refine lv_aload_n C.1 C.2.1 dX7_execute_49 rfl (lv_at hl 2 rfl) ?_
        refine lv_aload_n C.1 C.2.1 dX7_execute_50 rfl (lv_at hl 2 rfl) ?_
        refine gE_0_3 C G k_224 dX7_execute_51 ?_
        refine lv_iload_n C.1 C.2.1 dX7_execute_54 rfl (lv_at hl 0 rfl) ?_
        obtain ⟨r8, S8, eS8, hf⟩ := bnd_e hf
        refine r_cali (As := [.int r2]) (na := 1) C adE G (mX6_numberOf_8 l D a cI cJ tk tf r2 S6 _ eS8) k_395 k_396 k_397 k_63 k_398 (q0 := 8) rfl (ci := 6) rfl (by decide +kernel) ⟨Nat.le_of_ble_eq_true rfl, Nat.le_of_ble_eq_true rfl⟩ rfl rfl ⟨Nat.zero_le _, Nat.zero_le _⟩ rfl hl.1 rfl (Nat.le_of_ble_eq_true rfl) dX7_execute_55 (fun H locs G => ?_)
        refine lv_iconst (v := 1) C.1 C.2.1 dX7_execute_58 (by decide) ?_
        obtain ⟨r9, S9, eS9, hf⟩ := bnd_e hf
        refine r_cali (As := [.int r8, .int (1 : Int32)]) (na := 2) C adE G (mX7_begin_0 l D a cI cJ tk tf r8 (1 : Int32) S8 _ eS9) k_382 k_384 k_6 k_59 k_385 (q0 := 0) rfl (ci := 7) rfl (by decide +kernel) ⟨Nat.le_of_ble_eq_true rfl, Nat.le_of_ble_eq_true rfl⟩ rfl rfl ⟨Nat.zero_le _, Nat.zero_le _⟩ rfl hl.1 rfl (Nat.le_of_ble_eq_true rfl) dX7_execute_59 (fun H locs G => ?_)
        exact r_iret C hr G hf dX7_execute_62
    · replace hf := ifq c5 hf
      refine lv_iconst (v := 0) C.1 C.2.1 dX7_execute_35 (by decide) ?_
      exact r_iret C hr G hf dX7_execute_36
  · replace hf := ifp c3 hf
    refine lv_aload_n C.1 C.2.1 dX7_execute_23 rfl (lv_at hl 2 rfl) ?_
    refine lv_iload_n C.1 C.2.1 dX7_execute_24 rfl (lv_at hl 0 rfl) ?_
    refine lv_iconst (v := 1) C.1 C.2.1 dX7_execute_25 (by decide) ?_
    obtain ⟨r4, S4, eS4, hf⟩ := bnd_e hf
    refine r_cali (As := [.int r2, .int (1 : Int32)]) (na := 2) C adE G (mX7_begin_0 l D a cI cJ tk tf r2 (1 : Int32) S2 _ eS4) k_382 k_384 k_6 k_59 k_385 (q0 := 0) rfl (ci := 7) rfl (by decide +kernel) ⟨Nat.le_of_ble_eq_true rfl, Nat.le_of_ble_eq_true rfl⟩ rfl rfl ⟨Nat.zero_le _, Nat.zero_le _⟩ rfl hl.1 rfl (Nat.le_of_ble_eq_true rfl) dX7_execute_26 (fun H locs G => ?_)
    exact r_iret C hr G hf dX7_execute_29
