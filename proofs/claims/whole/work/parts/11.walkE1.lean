theorem dX0_errorHandled_0 : decode cX0_errorHandled 0 = .ok (.aload_n 0, 1) := by decide +kernel
theorem dX0_errorHandled_1 : decode cX0_errorHandled 1 = .ok (.getfield 31, 3) := by decide +kernel
theorem dX0_errorHandled_4 : decode cX0_errorHandled 4 = .ok (.iconst 1, 1) := by decide +kernel
theorem dX0_errorHandled_5 : decode cX0_errorHandled 5 = .ok (.isub, 1) := by decide +kernel
theorem dX0_errorHandled_6 : decode cX0_errorHandled 6 = .ok (.istore_n 1, 1) := by decide +kernel
theorem dX0_errorHandled_7 : decode cX0_errorHandled 7 = .ok (.iload_n 1, 1) := by decide +kernel
theorem dX0_errorHandled_8 : decode cX0_errorHandled 8 = .ok (.ifCond .lt 36, 3) := by decide +kernel
theorem dX0_errorHandled_11 : decode cX0_errorHandled 11 = .ok (.aload_n 0, 1) := by decide +kernel
theorem dX0_errorHandled_12 : decode cX0_errorHandled 12 = .ok (.getfield 9, 3) := by decide +kernel
theorem dX0_errorHandled_15 : decode cX0_errorHandled 15 = .ok (.iload_n 1, 1) := by decide +kernel
theorem dX0_errorHandled_16 : decode cX0_errorHandled 16 = .ok (.iaload, 1) := by decide +kernel
theorem dX0_errorHandled_17 : decode cX0_errorHandled 17 = .ok (.iconst 3, 1) := by decide +kernel
theorem dX0_errorHandled_18 : decode cX0_errorHandled 18 = .ok (.if_icmp .eq 26, 3) := by decide +kernel
theorem dX0_errorHandled_21 : decode cX0_errorHandled 21 = .ok (.aload_n 0, 1) := by decide +kernel
theorem dX0_errorHandled_22 : decode cX0_errorHandled 22 = .ok (.getfield 9, 3) := by decide +kernel
theorem dX0_errorHandled_25 : decode cX0_errorHandled 25 = .ok (.iload_n 1, 1) := by decide +kernel
theorem dX0_errorHandled_26 : decode cX0_errorHandled 26 = .ok (.iaload, 1) := by decide +kernel
theorem dX0_errorHandled_27 : decode cX0_errorHandled 27 = .ok (.iconst 4, 1) := by decide +kernel
theorem dX0_errorHandled_28 : decode cX0_errorHandled 28 = .ok (.if_icmp .ne 10, 3) := by decide +kernel
theorem dX0_errorHandled_31 : decode cX0_errorHandled 31 = .ok (.aload_n 0, 1) := by decide +kernel
theorem dX0_errorHandled_32 : decode cX0_errorHandled 32 = .ok (.getfield 15, 3) := by decide +kernel
theorem dX0_errorHandled_35 : decode cX0_errorHandled 35 = .ok (.iload_n 1, 1) := by decide +kernel
theorem dX0_errorHandled_36 : decode cX0_errorHandled 36 = .ok (.iaload, 1) := by decide +kernel
theorem dX0_errorHandled_37 : decode cX0_errorHandled 37 = .ok (.ireturn, 1) := by decide +kernel
theorem dX0_errorHandled_38 : decode cX0_errorHandled 38 = .ok (.iinc 1 (-1), 3) := by decide +kernel
theorem dX0_errorHandled_41 : decode cX0_errorHandled 41 = .ok (.goto (-34), 3) := by decide +kernel
theorem dX0_errorHandled_44 : decode cX0_errorHandled 44 = .ok (.iconst 0, 1) := by decide +kernel
theorem dX0_errorHandled_45 : decode cX0_errorHandled 45 = .ok (.ireturn, 1) := by decide +kernel
theorem dX1_of_0 : decode cX1_of 0 = .ok (.iload_n 1, 1) := by decide +kernel
theorem dX1_of_1 : decode cX1_of 1 = .ok (.iconst 1, 1) := by decide +kernel
theorem dX1_of_2 : decode cX1_of 2 = .ok (.if_icmp .lt 18, 3) := by decide +kernel
theorem dX1_of_5 : decode cX1_of 5 = .ok (.iload_n 1, 1) := by decide +kernel
theorem dX1_of_6 : decode cX1_of 6 = .ok (.bipush 11, 2) := by decide +kernel
theorem dX1_of_8 : decode cX1_of 8 = .ok (.if_icmp .gt 12, 3) := by decide +kernel
theorem dX1_of_11 : decode cX1_of 11 = .ok (.aload_n 0, 1) := by decide +kernel
theorem dX1_of_12 : decode cX1_of 12 = .ok (.getfield 9, 3) := by decide +kernel
theorem dX1_of_15 : decode cX1_of 15 = .ok (.iload_n 1, 1) := by decide +kernel
theorem dX1_of_16 : decode cX1_of 16 = .ok (.iaload, 1) := by decide +kernel
theorem dX1_of_17 : decode cX1_of 17 = .ok (.goto 4, 3) := by decide +kernel
theorem dX1_of_20 : decode cX1_of 20 = .ok (.iconst (-1), 1) := by decide +kernel
theorem dX1_of_21 : decode cX1_of 21 = .ok (.ireturn, 1) := by decide +kernel
theorem dX2_copy_0 : decode cX2_copy 0 = .ok (.iconst 0, 1) := by decide +kernel
theorem dX2_copy_1 : decode cX2_copy 1 = .ok (.istore_n 2, 1) := by decide +kernel
theorem dX2_copy_2 : decode cX2_copy 2 = .ok (.iload_n 2, 1) := by decide +kernel
theorem dX2_copy_3 : decode cX2_copy 3 = .ok (.aload_n 1, 1) := by decide +kernel
theorem dX2_copy_4 : decode cX2_copy 4 = .ok (.getfield 18, 3) := by decide +kernel
theorem dX2_copy_7 : decode cX2_copy 7 = .ok (.if_icmp .ge 39, 3) := by decide +kernel
theorem dX2_copy_10 : decode cX2_copy 10 = .ok (.iload_n 2, 1) := by decide +kernel
theorem dX2_copy_11 : decode cX2_copy 11 = .ok (.bipush 60, 2) := by decide +kernel
theorem dX2_copy_13 : decode cX2_copy 13 = .ok (.if_icmp .ge 33, 3) := by decide +kernel
theorem dX2_copy_16 : decode cX2_copy 16 = .ok (.aload_n 0, 1) := by decide +kernel
theorem dX2_copy_17 : decode cX2_copy 17 = .ok (.getfield 9, 3) := by decide +kernel
theorem dX2_copy_20 : decode cX2_copy 20 = .ok (.iload_n 2, 1) := by decide +kernel
theorem dX2_copy_21 : decode cX2_copy 21 = .ok (.aload_n 1, 1) := by decide +kernel
theorem dX2_copy_22 : decode cX2_copy 22 = .ok (.getfield 9, 3) := by decide +kernel
theorem dX2_copy_25 : decode cX2_copy 25 = .ok (.iload_n 2, 1) := by decide +kernel
theorem dX2_copy_26 : decode cX2_copy 26 = .ok (.iaload, 1) := by decide +kernel
theorem dX2_copy_27 : decode cX2_copy 27 = .ok (.iastore, 1) := by decide +kernel
theorem dX2_copy_28 : decode cX2_copy 28 = .ok (.aload_n 0, 1) := by decide +kernel
theorem dX2_copy_29 : decode cX2_copy 29 = .ok (.getfield 15, 3) := by decide +kernel
theorem dX2_copy_32 : decode cX2_copy 32 = .ok (.iload_n 2, 1) := by decide +kernel
theorem dX2_copy_33 : decode cX2_copy 33 = .ok (.aload_n 1, 1) := by decide +kernel
theorem dX2_copy_34 : decode cX2_copy 34 = .ok (.getfield 15, 3) := by decide +kernel
theorem dX2_copy_37 : decode cX2_copy 37 = .ok (.iload_n 2, 1) := by decide +kernel
theorem dX2_copy_38 : decode cX2_copy 38 = .ok (.iaload, 1) := by decide +kernel
theorem dX2_copy_39 : decode cX2_copy 39 = .ok (.iastore, 1) := by decide +kernel
theorem dX2_copy_40 : decode cX2_copy 40 = .ok (.iinc 2 1, 3) := by decide +kernel
theorem dX2_copy_43 : decode cX2_copy 43 = .ok (.goto (-41), 3) := by decide +kernel
theorem dX2_copy_46 : decode cX2_copy 46 = .ok (.aload_n 0, 1) := by decide +kernel
theorem dX2_copy_47 : decode cX2_copy 47 = .ok (.aload_n 1, 1) := by decide +kernel
theorem dX2_copy_48 : decode cX2_copy 48 = .ok (.getfield 18, 3) := by decide +kernel
theorem dX2_copy_51 : decode cX2_copy 51 = .ok (.putfield 18, 3) := by decide +kernel
theorem dX2_copy_54 : decode cX2_copy 54 = .ok (.return_, 1) := by decide +kernel
theorem dX5_tell_0 : decode cX5_tell 0 = .ok (.aload_n 0, 1) := by decide +kernel
theorem dX5_tell_1 : decode cX5_tell 1 = .ok (.iload_n 1, 1) := by decide +kernel
theorem dX5_tell_2 : decode cX5_tell 2 = .ok (.putfield 22, 3) := by decide +kernel
theorem dX5_tell_5 : decode cX5_tell 5 = .ok (.aload_n 0, 1) := by decide +kernel
theorem dX5_tell_6 : decode cX5_tell 6 = .ok (.iload_n 2, 1) := by decide +kernel
theorem dX5_tell_7 : decode cX5_tell 7 = .ok (.putfield 18, 3) := by decide +kernel
theorem dX5_tell_10 : decode cX5_tell 10 = .ok (.aload_n 0, 1) := by decide +kernel
theorem dX5_tell_11 : decode cX5_tell 11 = .ok (.iload_n 3, 1) := by decide +kernel
theorem dX5_tell_12 : decode cX5_tell 12 = .ok (.putfield 29, 3) := by decide +kernel
theorem dX5_tell_15 : decode cX5_tell 15 = .ok (.aload_n 0, 1) := by decide +kernel
theorem dX5_tell_16 : decode cX5_tell 16 = .ok (.dup, 1) := by decide +kernel
theorem dX5_tell_17 : decode cX5_tell 17 = .ok (.getfield 36, 3) := by decide +kernel
theorem dX5_tell_20 : decode cX5_tell 20 = .ok (.iconst 1, 1) := by decide +kernel
theorem dX5_tell_21 : decode cX5_tell 21 = .ok (.iadd, 1) := by decide +kernel
theorem dX5_tell_22 : decode cX5_tell 22 = .ok (.putfield 36, 3) := by decide +kernel
theorem dX5_tell_25 : decode cX5_tell 25 = .ok (.aload_n 0, 1) := by decide +kernel
theorem dX5_tell_26 : decode cX5_tell 26 = .ok (.iconst 1, 1) := by decide +kernel
theorem dX5_tell_27 : decode cX5_tell 27 = .ok (.putfield 25, 3) := by decide +kernel
theorem dX5_tell_30 : decode cX5_tell 30 = .ok (.aload_n 0, 1) := by decide +kernel
theorem dX5_tell_31 : decode cX5_tell 31 = .ok (.getfield 12, 3) := by decide +kernel
theorem dX5_tell_34 : decode cX5_tell 34 = .ok (.aload 4, 2) := by decide +kernel
theorem dX5_tell_36 : decode cX5_tell 36 = .ok (.invokevirtual 39, 3) := by decide +kernel
theorem dX5_tell_39 : decode cX5_tell 39 = .ok (.return_, 1) := by decide +kernel
theorem dX0_roomFor_0 : decode cX0_roomFor 0 = .ok (.aload_n 0, 1) := by decide +kernel
theorem dX0_roomFor_1 : decode cX0_roomFor 1 = .ok (.getfield 31, 3) := by decide +kernel
theorem dX0_roomFor_4 : decode cX0_roomFor 4 = .ok (.iload_n 1, 1) := by decide +kernel
theorem dX0_roomFor_5 : decode cX0_roomFor 5 = .ok (.iadd, 1) := by decide +kernel
theorem dX0_roomFor_6 : decode cX0_roomFor 6 = .ok (.bipush 30, 2) := by decide +kernel
theorem dX0_roomFor_8 : decode cX0_roomFor 8 = .ok (.if_icmp .gt 7, 3) := by decide +kernel
theorem dX0_roomFor_11 : decode cX0_roomFor 11 = .ok (.iconst 1, 1) := by decide +kernel
theorem dX0_roomFor_12 : decode cX0_roomFor 12 = .ok (.goto 4, 3) := by decide +kernel
theorem dX0_roomFor_15 : decode cX0_roomFor 15 = .ok (.iconst 0, 1) := by decide +kernel
theorem dX0_roomFor_16 : decode cX0_roomFor 16 = .ok (.ireturn, 1) := by decide +kernel
theorem dX0_topmostStopped_0 : decode cX0_topmostStopped 0 = .ok (.aload_n 0, 1) := by decide +kernel
theorem dX0_topmostStopped_1 : decode cX0_topmostStopped 1 = .ok (.getfield 31, 3) := by decide +kernel
theorem dX0_topmostStopped_4 : decode cX0_topmostStopped 4 = .ok (.iconst 1, 1) := by decide +kernel
theorem dX0_topmostStopped_5 : decode cX0_topmostStopped 5 = .ok (.isub, 1) := by decide +kernel
theorem dX0_topmostStopped_6 : decode cX0_topmostStopped 6 = .ok (.istore_n 1, 1) := by decide +kernel
theorem dX0_topmostStopped_7 : decode cX0_topmostStopped 7 = .ok (.iload_n 1, 1) := by decide +kernel
theorem dX0_topmostStopped_8 : decode cX0_topmostStopped 8 = .ok (.ifCond .lt 21, 3) := by decide +kernel
theorem dX0_topmostStopped_11 : decode cX0_topmostStopped 11 = .ok (.aload_n 0, 1) := by decide +kernel
theorem dX0_topmostStopped_12 : decode cX0_topmostStopped 12 = .ok (.getfield 9, 3) := by decide +kernel
theorem dX0_topmostStopped_15 : decode cX0_topmostStopped 15 = .ok (.iload_n 1, 1) := by decide +kernel
theorem dX0_topmostStopped_16 : decode cX0_topmostStopped 16 = .ok (.iaload, 1) := by decide +kernel
theorem dX0_topmostStopped_17 : decode cX0_topmostStopped 17 = .ok (.iconst 3, 1) := by decide +kernel
theorem dX0_topmostStopped_18 : decode cX0_topmostStopped 18 = .ok (.if_icmp .ne 5, 3) := by decide +kernel
theorem dX0_topmostStopped_21 : decode cX0_topmostStopped 21 = .ok (.iload_n 1, 1) := by decide +kernel
theorem dX0_topmostStopped_22 : decode cX0_topmostStopped 22 = .ok (.ireturn, 1) := by decide +kernel
theorem dX0_topmostStopped_23 : decode cX0_topmostStopped 23 = .ok (.iinc 1 (-1), 3) := by decide +kernel
theorem dX0_topmostStopped_26 : decode cX0_topmostStopped 26 = .ok (.goto (-19), 3) := by decide +kernel
theorem dX0_topmostStopped_29 : decode cX0_topmostStopped 29 = .ok (.iconst (-1), 1) := by decide +kernel
theorem dX0_topmostStopped_30 : decode cX0_topmostStopped 30 = .ok (.ireturn, 1) := by decide +kernel
theorem dX0_cutTo_0 : decode cX0_cutTo 0 = .ok (.iload_n 1, 1) := by decide +kernel
theorem dX0_cutTo_1 : decode cX0_cutTo 1 = .ok (.ifCond .lt 16, 3) := by decide +kernel
theorem dX0_cutTo_4 : decode cX0_cutTo 4 = .ok (.iload_n 1, 1) := by decide +kernel
theorem dX0_cutTo_5 : decode cX0_cutTo 5 = .ok (.aload_n 0, 1) := by decide +kernel
theorem dX0_cutTo_6 : decode cX0_cutTo 6 = .ok (.getfield 31, 3) := by decide +kernel
theorem dX0_cutTo_9 : decode cX0_cutTo 9 = .ok (.if_icmp .gt 8, 3) := by decide +kernel
theorem dX0_cutTo_12 : decode cX0_cutTo 12 = .ok (.aload_n 0, 1) := by decide +kernel
theorem dX0_cutTo_13 : decode cX0_cutTo 13 = .ok (.iload_n 1, 1) := by decide +kernel
theorem dX0_cutTo_14 : decode cX0_cutTo 14 = .ok (.putfield 31, 3) := by decide +kernel
theorem dX0_cutTo_17 : decode cX0_cutTo 17 = .ok (.return_, 1) := by decide +kernel
theorem dX2_full_0 : decode cX2_full 0 = .ok (.aload_n 0, 1) := by decide +kernel
theorem dX2_full_1 : decode cX2_full 1 = .ok (.getfield 18, 3) := by decide +kernel
theorem dX2_full_4 : decode cX2_full 4 = .ok (.bipush 60, 2) := by decide +kernel
theorem dX2_full_6 : decode cX2_full 6 = .ok (.if_icmp .lt 7, 3) := by decide +kernel
theorem dX2_full_9 : decode cX2_full 9 = .ok (.iconst 1, 1) := by decide +kernel
theorem dX2_full_10 : decode cX2_full 10 = .ok (.goto 4, 3) := by decide +kernel
theorem dX2_full_13 : decode cX2_full 13 = .ok (.iconst 0, 1) := by decide +kernel
theorem dX2_full_14 : decode cX2_full 14 = .ok (.ireturn, 1) := by decide +kernel
theorem dX7_stopBy_0 : decode cX7_stopBy 0 = .ok (.aload_n 0, 1) := by decide +kernel
theorem dX7_stopBy_1 : decode cX7_stopBy 1 = .ok (.getfield 47, 3) := by decide +kernel
theorem dX7_stopBy_4 : decode cX7_stopBy 4 = .ok (.invokevirtual 230, 3) := by decide +kernel
theorem dX7_stopBy_7 : decode cX7_stopBy 7 = .ok (.istore_n 2, 1) := by decide +kernel
theorem dX7_stopBy_8 : decode cX7_stopBy 8 = .ok (.iload_n 2, 1) := by decide +kernel
theorem dX7_stopBy_9 : decode cX7_stopBy 9 = .ok (.iconst (-1), 1) := by decide +kernel
theorem dX7_stopBy_10 : decode cX7_stopBy 10 = .ok (.if_icmp .ne 17, 3) := by decide +kernel
theorem dX7_stopBy_13 : decode cX7_stopBy 13 = .ok (.aload_n 0, 1) := by decide +kernel
theorem dX7_stopBy_14 : decode cX7_stopBy 14 = .ok (.getfield 47, 3) := by decide +kernel
theorem dX7_stopBy_17 : decode cX7_stopBy 17 = .ok (.iconst 0, 1) := by decide +kernel
theorem dX7_stopBy_18 : decode cX7_stopBy 18 = .ok (.invokevirtual 107, 3) := by decide +kernel
theorem dX7_stopBy_21 : decode cX7_stopBy 21 = .ok (.aload_n 0, 1) := by decide +kernel
theorem dX7_stopBy_22 : decode cX7_stopBy 22 = .ok (.iload_n 1, 1) := by decide +kernel
theorem dX7_stopBy_23 : decode cX7_stopBy 23 = .ok (.putfield 93, 3) := by decide +kernel
theorem dX7_stopBy_26 : decode cX7_stopBy 26 = .ok (.return_, 1) := by decide +kernel
theorem dX7_stopBy_27 : decode cX7_stopBy 27 = .ok (.aload_n 0, 1) := by decide +kernel
theorem dX7_stopBy_28 : decode cX7_stopBy 28 = .ok (.getfield 47, 3) := by decide +kernel
theorem dX7_stopBy_31 : decode cX7_stopBy 31 = .ok (.iload_n 2, 1) := by decide +kernel
theorem dX7_stopBy_32 : decode cX7_stopBy 32 = .ok (.invokevirtual 107, 3) := by decide +kernel
theorem dX7_stopBy_35 : decode cX7_stopBy 35 = .ok (.aload_n 0, 1) := by decide +kernel
theorem dX7_stopBy_36 : decode cX7_stopBy 36 = .ok (.getfield 27, 3) := by decide +kernel
theorem dX7_stopBy_39 : decode cX7_stopBy 39 = .ok (.invokevirtual 208, 3) := by decide +kernel
theorem dX7_stopBy_42 : decode cX7_stopBy 42 = .ok (.ifCond .eq 11, 3) := by decide +kernel
theorem dX7_stopBy_45 : decode cX7_stopBy 45 = .ok (.aload_n 0, 1) := by decide +kernel
theorem dX7_stopBy_46 : decode cX7_stopBy 46 = .ok (.getfield 27, 3) := by decide +kernel
theorem dX7_stopBy_49 : decode cX7_stopBy 49 = .ok (.iconst 1, 1) := by decide +kernel
theorem dX7_stopBy_50 : decode cX7_stopBy 50 = .ok (.invokevirtual 86, 3) := by decide +kernel
theorem dX7_stopBy_53 : decode cX7_stopBy 53 = .ok (.aload_n 0, 1) := by decide +kernel
theorem dX7_stopBy_54 : decode cX7_stopBy 54 = .ok (.getfield 27, 3) := by decide +kernel
theorem dX7_stopBy_57 : decode cX7_stopBy 57 = .ok (.iconst 1, 1) := by decide +kernel
theorem dX7_stopBy_58 : decode cX7_stopBy 58 = .ok (.iconst 1, 1) := by decide +kernel
theorem dX7_stopBy_59 : decode cX7_stopBy 59 = .ok (.invokevirtual 77, 3) := by decide +kernel
theorem dX7_stopBy_62 : decode cX7_stopBy 62 = .ok (.pop, 1) := by decide +kernel
theorem dX7_stopBy_63 : decode cX7_stopBy 63 = .ok (.return_, 1) := by decide +kernel
theorem dX7_arise_0 : decode cX7_arise 0 = .ok (.aload_n 0, 1) := by decide +kernel
theorem dX7_arise_1 : decode cX7_arise 1 = .ok (.getfield 47, 3) := by decide +kernel
theorem dX7_arise_4 : decode cX7_arise 4 = .ok (.invokevirtual 220, 3) := by decide +kernel
theorem dX7_arise_7 : decode cX7_arise 7 = .ok (.istore_n 3, 1) := by decide +kernel
theorem dX7_arise_8 : decode cX7_arise 8 = .ok (.aload_n 0, 1) := by decide +kernel
theorem dX7_arise_9 : decode cX7_arise 9 = .ok (.getfield 40, 3) := by decide +kernel
theorem dX7_arise_12 : decode cX7_arise 12 = .ok (.iload_n 1, 1) := by decide +kernel
theorem dX7_arise_13 : decode cX7_arise 13 = .ok (.invokevirtual 146, 3) := by decide +kernel
theorem dX7_arise_16 : decode cX7_arise 16 = .ok (.istore 4, 2) := by decide +kernel
theorem dX7_arise_18 : decode cX7_arise 18 = .ok (.aload_n 0, 1) := by decide +kernel
theorem dX7_arise_19 : decode cX7_arise 19 = .ok (.getfield 54, 3) := by decide +kernel
theorem dX7_arise_22 : decode cX7_arise 22 = .ok (.iload_n 1, 1) := by decide +kernel
theorem dX7_arise_23 : decode cX7_arise 23 = .ok (.iload_n 2, 1) := by decide +kernel
theorem dX7_arise_24 : decode cX7_arise 24 = .ok (.iload_n 3, 1) := by decide +kernel
theorem dX7_arise_25 : decode cX7_arise 25 = .ok (.aload_n 0, 1) := by decide +kernel
theorem dX7_arise_26 : decode cX7_arise 26 = .ok (.getfield 27, 3) := by decide +kernel
theorem dX7_arise_29 : decode cX7_arise 29 = .ok (.invokevirtual 223, 3) := by decide +kernel
theorem dX7_arise_32 : decode cX7_arise 32 = .ok (.iload_n 3, 1) := by decide +kernel
theorem dX7_arise_33 : decode cX7_arise 33 = .ok (.ifCond .ne 20, 3) := by decide +kernel
theorem dX7_arise_36 : decode cX7_arise 36 = .ok (.iload 4, 2) := by decide +kernel
theorem dX7_arise_38 : decode cX7_arise 38 = .ok (.iconst (-1), 1) := by decide +kernel
theorem dX7_arise_39 : decode cX7_arise 39 = .ok (.if_icmp .eq 14, 3) := by decide +kernel
theorem dX7_arise_42 : decode cX7_arise 42 = .ok (.aload_n 0, 1) := by decide +kernel
theorem dX7_arise_43 : decode cX7_arise 43 = .ok (.getfield 47, 3) := by decide +kernel
theorem dX7_arise_46 : decode cX7_arise 46 = .ok (.iconst 2, 1) := by decide +kernel
theorem dX7_arise_47 : decode cX7_arise 47 = .ok (.invokevirtual 205, 3) := by decide +kernel
theorem dX7_arise_50 : decode cX7_arise 50 = .ok (.ifCond .ne 11, 3) := by decide +kernel
theorem dX7_arise_53 : decode cX7_arise 53 = .ok (.aload_n 0, 1) := by decide +kernel
theorem dX7_arise_54 : decode cX7_arise 54 = .ok (.iload_n 1, 1) := by decide +kernel
theorem dX7_arise_55 : decode cX7_arise 55 = .ok (.invokevirtual 227, 3) := by decide +kernel
theorem dX7_arise_58 : decode cX7_arise 58 = .ok (.goto 32, 3) := by decide +kernel
theorem dX7_arise_61 : decode cX7_arise 61 = .ok (.aload_n 0, 1) := by decide +kernel
theorem dX7_arise_62 : decode cX7_arise 62 = .ok (.getfield 47, 3) := by decide +kernel
theorem dX7_arise_65 : decode cX7_arise 65 = .ok (.iconst 4, 1) := by decide +kernel
theorem dX7_arise_66 : decode cX7_arise 66 = .ok (.iload_n 1, 1) := by decide +kernel
theorem dX7_arise_67 : decode cX7_arise 67 = .ok (.invokevirtual 217, 3) := by decide +kernel
theorem dX7_arise_70 : decode cX7_arise 70 = .ok (.aload_n 0, 1) := by decide +kernel
theorem dX7_arise_71 : decode cX7_arise 71 = .ok (.getfield 47, 3) := by decide +kernel
theorem dX7_arise_74 : decode cX7_arise 74 = .ok (.iconst 0, 1) := by decide +kernel
theorem dX7_arise_75 : decode cX7_arise 75 = .ok (.iload 4, 2) := by decide +kernel
theorem dX7_arise_77 : decode cX7_arise 77 = .ok (.invokevirtual 217, 3) := by decide +kernel
theorem dX7_arise_80 : decode cX7_arise 80 = .ok (.aload_n 0, 1) := by decide +kernel
theorem dX7_arise_81 : decode cX7_arise 81 = .ok (.dup, 1) := by decide +kernel
theorem dX7_arise_82 : decode cX7_arise 82 = .ok (.getfield 97, 3) := by decide +kernel
theorem dX7_arise_85 : decode cX7_arise 85 = .ok (.iconst 1, 1) := by decide +kernel
theorem dX7_arise_86 : decode cX7_arise 86 = .ok (.iadd, 1) := by decide +kernel
theorem dX7_arise_87 : decode cX7_arise 87 = .ok (.putfield 97, 3) := by decide +kernel
theorem dX7_arise_90 : decode cX7_arise 90 = .ok (.return_, 1) := by decide +kernel
theorem dX7_endStopped_0 : decode cX7_endStopped 0 = .ok (.aload_n 0, 1) := by decide +kernel
theorem dX7_endStopped_1 : decode cX7_endStopped 1 = .ok (.getfield 47, 3) := by decide +kernel
theorem dX7_endStopped_4 : decode cX7_endStopped 4 = .ok (.invokevirtual 177, 3) := by decide +kernel
theorem dX7_endStopped_7 : decode cX7_endStopped 7 = .ok (.aload_n 0, 1) := by decide +kernel
theorem dX7_endStopped_8 : decode cX7_endStopped 8 = .ok (.getfield 27, 3) := by decide +kernel
theorem dX7_endStopped_11 : decode cX7_endStopped 11 = .ok (.iconst 1, 1) := by decide +kernel
theorem dX7_endStopped_12 : decode cX7_endStopped 12 = .ok (.iconst 0, 1) := by decide +kernel
theorem dX7_endStopped_13 : decode cX7_endStopped 13 = .ok (.invokevirtual 77, 3) := by decide +kernel
theorem dX7_endStopped_16 : decode cX7_endStopped 16 = .ok (.ifCond .ne 10, 3) := by decide +kernel
theorem dX7_endStopped_19 : decode cX7_endStopped 19 = .ok (.aload_n 0, 1) := by decide +kernel
theorem dX7_endStopped_20 : decode cX7_endStopped 20 = .ok (.iconst 2, 1) := by decide +kernel
theorem dX7_endStopped_21 : decode cX7_endStopped 21 = .ok (.bipush (-3), 2) := by decide +kernel
theorem dX7_endStopped_23 : decode cX7_endStopped 23 = .ok (.invokevirtual 197, 3) := by decide +kernel
theorem dX7_endStopped_26 : decode cX7_endStopped 26 = .ok (.return_, 1) := by decide +kernel
theorem dX0_loopIsOver_0 : decode cX0_loopIsOver 0 = .ok (.aload_n 0, 1) := by decide +kernel
theorem dX0_loopIsOver_1 : decode cX0_loopIsOver 1 = .ok (.getfield 31, 3) := by decide +kernel
theorem dX0_loopIsOver_4 : decode cX0_loopIsOver 4 = .ok (.ifCond .ne 5, 3) := by decide +kernel
theorem dX0_loopIsOver_7 : decode cX0_loopIsOver 7 = .ok (.iconst 1, 1) := by decide +kernel
theorem dX0_loopIsOver_8 : decode cX0_loopIsOver 8 = .ok (.ireturn, 1) := by decide +kernel
theorem dX0_loopIsOver_9 : decode cX0_loopIsOver 9 = .ok (.aload_n 0, 1) := by decide +kernel
theorem dX0_loopIsOver_10 : decode cX0_loopIsOver 10 = .ok (.getfield 31, 3) := by decide +kernel
theorem dX0_loopIsOver_13 : decode cX0_loopIsOver 13 = .ok (.iconst 1, 1) := by decide +kernel
theorem dX0_loopIsOver_14 : decode cX0_loopIsOver 14 = .ok (.isub, 1) := by decide +kernel
theorem dX0_loopIsOver_15 : decode cX0_loopIsOver 15 = .ok (.istore_n 1, 1) := by decide +kernel
theorem dX0_loopIsOver_16 : decode cX0_loopIsOver 16 = .ok (.aload_n 0, 1) := by decide +kernel
theorem dX0_loopIsOver_17 : decode cX0_loopIsOver 17 = .ok (.getfield 25, 3) := by decide +kernel
theorem dX0_loopIsOver_20 : decode cX0_loopIsOver 20 = .ok (.iload_n 1, 1) := by decide +kernel
theorem dX0_loopIsOver_21 : decode cX0_loopIsOver 21 = .ok (.iaload, 1) := by decide +kernel
theorem dX0_loopIsOver_22 : decode cX0_loopIsOver 22 = .ok (.ifCond .le 20, 3) := by decide +kernel
theorem dX0_loopIsOver_25 : decode cX0_loopIsOver 25 = .ok (.aload_n 0, 1) := by decide +kernel
theorem dX0_loopIsOver_26 : decode cX0_loopIsOver 26 = .ok (.getfield 21, 3) := by decide +kernel
theorem dX0_loopIsOver_29 : decode cX0_loopIsOver 29 = .ok (.iload_n 1, 1) := by decide +kernel
theorem dX0_loopIsOver_30 : decode cX0_loopIsOver 30 = .ok (.laload, 1) := by decide +kernel
theorem dX0_loopIsOver_31 : decode cX0_loopIsOver 31 = .ok (.aload_n 0, 1) := by decide +kernel
theorem dX0_loopIsOver_32 : decode cX0_loopIsOver 32 = .ok (.getfield 28, 3) := by decide +kernel
theorem dX0_loopIsOver_35 : decode cX0_loopIsOver 35 = .ok (.iload_n 1, 1) := by decide +kernel
theorem dX0_loopIsOver_36 : decode cX0_loopIsOver 36 = .ok (.iaload, 1) := by decide +kernel
theorem dX0_loopIsOver_37 : decode cX0_loopIsOver 37 = .ok (.i2l, 1) := by decide +kernel
theorem dX0_loopIsOver_38 : decode cX0_loopIsOver 38 = .ok (.lcmp, 1) := by decide +kernel
theorem dX0_loopIsOver_39 : decode cX0_loopIsOver 39 = .ok (.ifCond .gt 29, 3) := by decide +kernel
theorem dX0_loopIsOver_42 : decode cX0_loopIsOver 42 = .ok (.aload_n 0, 1) := by decide +kernel
theorem dX0_loopIsOver_43 : decode cX0_loopIsOver 43 = .ok (.getfield 25, 3) := by decide +kernel
theorem dX0_loopIsOver_46 : decode cX0_loopIsOver 46 = .ok (.iload_n 1, 1) := by decide +kernel
theorem dX0_loopIsOver_47 : decode cX0_loopIsOver 47 = .ok (.iaload, 1) := by decide +kernel
theorem dX0_loopIsOver_48 : decode cX0_loopIsOver 48 = .ok (.ifCond .ge 24, 3) := by decide +kernel
theorem dX0_loopIsOver_51 : decode cX0_loopIsOver 51 = .ok (.aload_n 0, 1) := by decide +kernel
theorem dX0_loopIsOver_52 : decode cX0_loopIsOver 52 = .ok (.getfield 21, 3) := by decide +kernel
theorem dX0_loopIsOver_55 : decode cX0_loopIsOver 55 = .ok (.iload_n 1, 1) := by decide +kernel
theorem dX0_loopIsOver_56 : decode cX0_loopIsOver 56 = .ok (.laload, 1) := by decide +kernel
theorem dX0_loopIsOver_57 : decode cX0_loopIsOver 57 = .ok (.aload_n 0, 1) := by decide +kernel
theorem dX0_loopIsOver_58 : decode cX0_loopIsOver 58 = .ok (.getfield 28, 3) := by decide +kernel
theorem dX0_loopIsOver_61 : decode cX0_loopIsOver 61 = .ok (.iload_n 1, 1) := by decide +kernel
theorem dX0_loopIsOver_62 : decode cX0_loopIsOver 62 = .ok (.iaload, 1) := by decide +kernel
theorem dX0_loopIsOver_63 : decode cX0_loopIsOver 63 = .ok (.i2l, 1) := by decide +kernel
theorem dX0_loopIsOver_64 : decode cX0_loopIsOver 64 = .ok (.lcmp, 1) := by decide +kernel
theorem dX0_loopIsOver_65 : decode cX0_loopIsOver 65 = .ok (.ifCond .ge 7, 3) := by decide +kernel
theorem dX0_loopIsOver_68 : decode cX0_loopIsOver 68 = .ok (.iconst 1, 1) := by decide +kernel
theorem dX0_loopIsOver_69 : decode cX0_loopIsOver 69 = .ok (.goto 4, 3) := by decide +kernel
theorem dX0_loopIsOver_72 : decode cX0_loopIsOver 72 = .ok (.iconst 0, 1) := by decide +kernel
theorem dX0_loopIsOver_73 : decode cX0_loopIsOver 73 = .ok (.ireturn, 1) := by decide +kernel
theorem dX0_loopNumber_0 : decode cX0_loopNumber 0 = .ok (.aload_n 0, 1) := by decide +kernel
theorem dX0_loopNumber_1 : decode cX0_loopNumber 1 = .ok (.getfield 31, 3) := by decide +kernel
theorem dX0_loopNumber_4 : decode cX0_loopNumber 4 = .ok (.ifCond .le 18, 3) := by decide +kernel
theorem dX0_loopNumber_7 : decode cX0_loopNumber 7 = .ok (.aload_n 0, 1) := by decide +kernel
theorem dX0_loopNumber_8 : decode cX0_loopNumber 8 = .ok (.getfield 21, 3) := by decide +kernel
theorem dX0_loopNumber_11 : decode cX0_loopNumber 11 = .ok (.aload_n 0, 1) := by decide +kernel
theorem dX0_loopNumber_12 : decode cX0_loopNumber 12 = .ok (.getfield 31, 3) := by decide +kernel
theorem dX0_loopNumber_15 : decode cX0_loopNumber 15 = .ok (.iconst 1, 1) := by decide +kernel
theorem dX0_loopNumber_16 : decode cX0_loopNumber 16 = .ok (.isub, 1) := by decide +kernel
theorem dX0_loopNumber_17 : decode cX0_loopNumber 17 = .ok (.laload, 1) := by decide +kernel
theorem dX0_loopNumber_18 : decode cX0_loopNumber 18 = .ok (.l2i, 1) := by decide +kernel
theorem dX0_loopNumber_19 : decode cX0_loopNumber 19 = .ok (.goto 4, 3) := by decide +kernel
theorem dX0_loopNumber_22 : decode cX0_loopNumber 22 = .ok (.iconst 0, 1) := by decide +kernel
theorem dX0_loopNumber_23 : decode cX0_loopNumber 23 = .ok (.ireturn, 1) := by decide +kernel
theorem dX0_turnLoop_0 : decode cX0_turnLoop 0 = .ok (.aload_n 0, 1) := by decide +kernel
theorem dX0_turnLoop_1 : decode cX0_turnLoop 1 = .ok (.getfield 31, 3) := by decide +kernel
theorem dX0_turnLoop_4 : decode cX0_turnLoop 4 = .ok (.ifCond .le 29, 3) := by decide +kernel
theorem dX0_turnLoop_7 : decode cX0_turnLoop 7 = .ok (.aload_n 0, 1) := by decide +kernel
theorem dX0_turnLoop_8 : decode cX0_turnLoop 8 = .ok (.getfield 21, 3) := by decide +kernel
theorem dX0_turnLoop_11 : decode cX0_turnLoop 11 = .ok (.aload_n 0, 1) := by decide +kernel
theorem dX0_turnLoop_12 : decode cX0_turnLoop 12 = .ok (.getfield 31, 3) := by decide +kernel
theorem dX0_turnLoop_15 : decode cX0_turnLoop 15 = .ok (.iconst 1, 1) := by decide +kernel
theorem dX0_turnLoop_16 : decode cX0_turnLoop 16 = .ok (.isub, 1) := by decide +kernel
theorem dX0_turnLoop_17 : decode cX0_turnLoop 17 = .ok (.dup2, 1) := by decide +kernel
theorem dX0_turnLoop_18 : decode cX0_turnLoop 18 = .ok (.laload, 1) := by decide +kernel
theorem dX0_turnLoop_19 : decode cX0_turnLoop 19 = .ok (.aload_n 0, 1) := by decide +kernel
theorem dX0_turnLoop_20 : decode cX0_turnLoop 20 = .ok (.getfield 25, 3) := by decide +kernel
theorem dX0_turnLoop_23 : decode cX0_turnLoop 23 = .ok (.aload_n 0, 1) := by decide +kernel
theorem dX0_turnLoop_24 : decode cX0_turnLoop 24 = .ok (.getfield 31, 3) := by decide +kernel
theorem dX0_turnLoop_27 : decode cX0_turnLoop 27 = .ok (.iconst 1, 1) := by decide +kernel
theorem dX0_turnLoop_28 : decode cX0_turnLoop 28 = .ok (.isub, 1) := by decide +kernel
theorem dX0_turnLoop_29 : decode cX0_turnLoop 29 = .ok (.iaload, 1) := by decide +kernel
theorem dX0_turnLoop_30 : decode cX0_turnLoop 30 = .ok (.i2l, 1) := by decide +kernel
theorem dX0_turnLoop_31 : decode cX0_turnLoop 31 = .ok (.ladd, 1) := by decide +kernel
theorem dX0_turnLoop_32 : decode cX0_turnLoop 32 = .ok (.lastore, 1) := by decide +kernel
theorem dX0_turnLoop_33 : decode cX0_turnLoop 33 = .ok (.return_, 1) := by decide +kernel
theorem dX0_topSubject_0 : decode cX0_topSubject 0 = .ok (.aload_n 0, 1) := by decide +kernel
theorem dX0_topSubject_1 : decode cX0_topSubject 1 = .ok (.getfield 31, 3) := by decide +kernel
theorem dX0_topSubject_4 : decode cX0_topSubject 4 = .ok (.ifCond .le 17, 3) := by decide +kernel
theorem dX0_topSubject_7 : decode cX0_topSubject 7 = .ok (.aload_n 0, 1) := by decide +kernel
theorem dX0_topSubject_8 : decode cX0_topSubject 8 = .ok (.getfield 15, 3) := by decide +kernel
theorem dX0_topSubject_11 : decode cX0_topSubject 11 = .ok (.aload_n 0, 1) := by decide +kernel
theorem dX0_topSubject_12 : decode cX0_topSubject 12 = .ok (.getfield 31, 3) := by decide +kernel
theorem dX0_topSubject_15 : decode cX0_topSubject 15 = .ok (.iconst 1, 1) := by decide +kernel
theorem dX0_topSubject_16 : decode cX0_topSubject 16 = .ok (.isub, 1) := by decide +kernel
theorem dX0_topSubject_17 : decode cX0_topSubject 17 = .ok (.iaload, 1) := by decide +kernel
theorem dX0_topSubject_18 : decode cX0_topSubject 18 = .ok (.goto 4, 3) := by decide +kernel
theorem dX0_topSubject_21 : decode cX0_topSubject 21 = .ok (.iconst (-1), 1) := by decide +kernel
theorem dX0_topSubject_22 : decode cX0_topSubject 22 = .ok (.ireturn, 1) := by decide +kernel
def fX0_errorHandled_13_44 (S : St) : Option (Int32 × St) :=
    some ((0 : Int32), S)
def fX0_errorHandled_13_7 : Nat → Int32 → St → Option (Int32 × St)
  | 0, _, _ => none
  | n + 1, q1, S =>
    if q1 < 0 then
      fX0_errorHandled_13_44 S
    else
      if vq q1 30 then
      if (S.1 14 q1.toNatClampNeg) = (3 : Int32) then
        fX0_errorHandled_13_44 S
      else
        if vq q1 30 then
        if (S.1 14 q1.toNatClampNeg) = (4 : Int32) then
          if vq q1 30 then
          some (S.1 15 q1.toNatClampNeg, S)
          else none
        else
          stv (q1 + (-1)) fun y7 =>
          fX0_errorHandled_13_7 n y7 S
        else none
      else none
def fX0_errorHandled_13 (S : St) : Option (Int32 × St) :=
  stv ((S.1 13 6) - (1 : Int32)) fun y1 =>
  fX0_errorHandled_13_7 500 y1 S
def fX1_of_11_20 (S : St) : Option (Int32 × St) :=
    some ((-1 : Int32), S)
def fX1_of_11 (p1 : Int32) (S : St) : Option (Int32 × St) :=
  if p1 < (1 : Int32) then
    fX1_of_11_20 S
  else
    if (11 : Int32) < p1 then
      fX1_of_11_20 S
    else
      if vq p1 12 then
      some (S.1 12 p1.toNatClampNeg, S)
      else none
def fX2_copy_21_5_46 (S : St) : Option (Int32 × St) :=
    stp (si S 21 2 (S.1 5 2)) fun S1 =>
    some (0, S1)
def fX2_copy_21_5_2 : Nat → Int32 → St → Option (Int32 × St)
  | 0, _, _ => none
  | n + 1, q2, S =>
    if (S.1 5 2) ≤ q2 then
      fX2_copy_21_5_46 S
    else
      if (60 : Int32) ≤ q2 then
        fX2_copy_21_5_46 S
      else
        if vq q2 60 then
        if vq q2 60 then
        stp (si S 22 q2.toNatClampNeg (S.1 6 q2.toNatClampNeg)) fun S4 =>
        if vq q2 60 then
        if vq q2 60 then
        stp (si S4 23 q2.toNatClampNeg (S4.1 7 q2.toNatClampNeg)) fun S6 =>
        stv (q2 + 1) fun y7 =>
        fX2_copy_21_5_2 n y7 S6
        else none
        else none
        else none
        else none
def fX2_copy_21_5 (S : St) : Option (Int32 × St) :=
  stv (0 : Int32) fun y1 =>
  fX2_copy_21_5_2 500 y1 S
def fX5_tell_20_5 (p1 : Int32) (p2 : Int32) (p3 : Int32) (S : St) : Option (Int32 × St) :=
  stp (si S 20 1 p1) fun S1 =>
  stp (si S1 20 2 p2) fun S2 =>
  stp (si S2 20 3 p3) fun S3 =>
  stp (si S3 20 4 ((S3.1 20 4) + (1 : Int32))) fun S4 =>
  stp (si S4 20 5 (1 : Int32)) fun S5 =>
  bnd (fX2_copy_21_5 S5) fun _ S6 =>
  some (0, S6)
def fX0_roomFor_13 (p1 : Int32) (S : St) : Option (Int32 × St) :=
  if (30 : Int32) < ((S.1 13 6) + p1) then
    some ((0 : Int32), S)
  else
    some ((1 : Int32), S)
def fX0_topmostStopped_13_7 : Nat → Int32 → St → Option (Int32 × St)
  | 0, _, _ => none
  | n + 1, q1, S =>
    if q1 < 0 then
      some ((-1 : Int32), S)
    else
      if vq q1 30 then
      if (S.1 14 q1.toNatClampNeg) = (3 : Int32) then
        some (q1, S)
      else
        stv (q1 + (-1)) fun y4 =>
        fX0_topmostStopped_13_7 n y4 S
      else none
def fX0_topmostStopped_13 (S : St) : Option (Int32 × St) :=
  stv ((S.1 13 6) - (1 : Int32)) fun y1 =>
  fX0_topmostStopped_13_7 500 y1 S
def fX0_cutTo_13 (p1 : Int32) (S : St) : Option (Int32 × St) :=
  if p1 < 0 then
    some (0, S)
  else
    if (S.1 13 6) < p1 then
      some (0, S)
    else
      stp (si S 13 6 p1) fun S3 =>
      some (0, S3)
def fX2_full_5 (S : St) : Option (Int32 × St) :=
  if (S.1 5 2) < (60 : Int32) then
    some ((0 : Int32), S)
  else
    some ((1 : Int32), S)
def fX7_stopBy_0_53 (S : St) : Option (Int32 × St) :=
    bnd (fX2_put_5 (1 : Int32) (1 : Int32) S) fun r1 S1 =>
    some (0, S1)
def fX7_stopBy_0 (p1 : Int32) (S : St) : Option (Int32 × St) :=
  bnd (fX0_topmostStopped_13 S) fun r1 S1 =>
  if r1 = (-1 : Int32) then
    bnd (fX0_cutTo_13 (0 : Int32) S1) fun _ S3 =>
    stp (si S3 0 8 p1) fun S4 =>
    some (0, S4)
  else
    bnd (fX0_cutTo_13 r1 S1) fun _ S5 =>
    bnd (fX2_full_5 S5) fun r6 S6 =>
    if r6 = 0 then
      fX7_stopBy_0_53 S6
    else
      bnd (fX2_takeOff_5 (1 : Int32) S6) fun _ S8 =>
      fX7_stopBy_0_53 S8
def fX7_arise_0_53 (q1 : Int32) (S : St) : Option (Int32 × St) :=
    bnd (fX7_stopBy_0 q1 S) fun _ S1 =>
    some (0, S1)
def fX7_arise_0 (p1 : Int32) (p2 : Int32) (S : St) : Option (Int32 × St) :=
  bnd (fX0_errorHandled_13 S) fun r1 S1 =>
  bnd (fX1_of_11 p1 S1) fun r2 S2 =>
  bnd (fX5_tell_20_5 p1 p2 r1 S2) fun _ S3 =>
  if r1 = 0 then
    if r2 = (-1 : Int32) then
      fX7_arise_0_53 p1 S3
    else
      bnd (fX0_roomFor_13 (2 : Int32) S3) fun r6 S6 =>
      if r6 = 0 then
        fX7_arise_0_53 p1 S6
      else
        bnd (fX0_add_13 (4 : Int32) p1 S6) fun _ S8 =>
        bnd (fX0_add_13 (0 : Int32) r2 S8) fun _ S9 =>
        stp (si S9 0 10 ((S9.1 0 10) + (1 : Int32))) fun S10 =>
        some (0, S10)
  else
    fX7_arise_0_53 p1 S3
def fX7_endStopped_0 (S : St) : Option (Int32 × St) :=
  bnd (fX0_takeTop_13 S) fun _ S1 =>
  bnd (fX2_put_5 (1 : Int32) (0 : Int32) S1) fun r2 S2 =>
  if r2 = 0 then
    bnd (fX7_arise_0 (2 : Int32) (-3 : Int32) S2) fun _ S4 =>
    some (0, S4)
  else
    some (0, S2)
def fX0_loopIsOver_13_72 (S : St) : Option (Int32 × St) :=
    some ((0 : Int32), S)
def fX0_loopIsOver_13_68 (S : St) : Option (Int32 × St) :=
    some ((1 : Int32), S)
def fX0_loopIsOver_13_42 (q1 : Int32) (S : St) : Option (Int32 × St) :=
    if vq q1 30 then
    if 0 ≤ (S.1 18 q1.toNatClampNeg) then
      fX0_loopIsOver_13_72 S
    else
      if vq q1 30 then
      if vq q1 30 then
      if 0 ≤ (lg_cmp (S.2 q1.toNatClampNeg) ((S.1 19 q1.toNatClampNeg).toInt64)) then
        fX0_loopIsOver_13_72 S
      else
        fX0_loopIsOver_13_68 S
      else none
      else none
    else none
def fX0_loopIsOver_13 (S : St) : Option (Int32 × St) :=
  if (S.1 13 6) = 0 then
    some ((1 : Int32), S)
  else
    stv ((S.1 13 6) - (1 : Int32)) fun y2 =>
    if vq y2 30 then
    if (S.1 18 y2.toNatClampNeg) ≤ 0 then
      fX0_loopIsOver_13_42 y2 S
    else
      if vq y2 30 then
      if vq y2 30 then
      if 0 < (lg_cmp (S.2 y2.toNatClampNeg) ((S.1 19 y2.toNatClampNeg).toInt64)) then
        fX0_loopIsOver_13_68 S
      else
        fX0_loopIsOver_13_42 y2 S
      else none
      else none
    else none
def fX0_loopNumber_13 (S : St) : Option (Int32 × St) :=
  if (S.1 13 6) ≤ 0 then
    some ((0 : Int32), S)
  else
    if vq ((S.1 13 6) - (1 : Int32)) 30 then
    some ((S.2 ((S.1 13 6) - (1 : Int32)).toNatClampNeg).toInt32, S)
    else none
def fX0_turnLoop_13 (S : St) : Option (Int32 × St) :=
  if (S.1 13 6) ≤ 0 then
    some (0, S)
  else
    if vq ((S.1 13 6) - (1 : Int32)) 30 then
    if vq ((S.1 13 6) - (1 : Int32)) 30 then
    if vq ((S.1 13 6) - (1 : Int32)) 30 then
    stp (sl S ((S.1 13 6) - (1 : Int32)).toNatClampNeg ((S.2 ((S.1 13 6) - (1 : Int32)).toNatClampNeg) + ((S.1 18 ((S.1 13 6) - (1 : Int32)).toNatClampNeg).toInt64))) fun S4 =>
    some (0, S4)
    else none
    else none
    else none
def fX0_topSubject_13 (S : St) : Option (Int32 × St) :=
  if (S.1 13 6) ≤ 0 then
    some ((-1 : Int32), S)
  else
    if vq ((S.1 13 6) - (1 : Int32)) 30 then
    some (S.1 15 ((S.1 13 6) - (1 : Int32)).toNatClampNeg, S)
    else none
set_option maxRecDepth 100000 in
set_option maxHeartbeats 4000000 in
theorem rX0_errorHandled_13_44 {p : Program} {l : Launch} {e : Env} {s : State} {m : MethodId} {args : Array Value} {below : List Frame} {meth : Method} {c : Code} {D : va_G} {a : Nat → Nat} {cI cJ : ClassId} {tk : Nat} {tf : Nat → Int32} (C : Cx p s m args meth c RX0 cX0_errorHandled 2 D cI cJ tk tf (AR a 25 s.heap.size)) (hr : meth.sig.returnType = (some .int)) : ∀ (S : St) (x : Int32 × St) (H : Heap) (locs : List Loc) (ls : Array Slot), fX0_errorHandled_13_44 S = some x → Wd D (wE a cI cJ) (AR a 25 s.heap.size) s S H locs → lv_has ls 2 [] → W p l e { frames := 0, cells := 0, slots := 0, locals := 0 } s m args below meth c H locs 0 0 (MQ below (Qi D (wE a cI cJ) (AR a 25 s.heap.size) x) args s 0 0 (AR a 25 s.heap.size)) (F0 m 44 ls []) := by
  intro S x H locs ls hf G hl
  unfold fX0_errorHandled_13_44 at hf
  refine lv_iconst (v := 0) C.1 C.2.1 dX0_errorHandled_44 (by decide) ?_
  exact r_iret C hr G hf dX0_errorHandled_45
set_option maxRecDepth 100000 in
set_option maxHeartbeats 4000000 in
theorem rX0_errorHandled_13_7 {p : Program} {l : Launch} {e : Env} {s : State} {m : MethodId} {args : Array Value} {below : List Frame} {meth : Method} {c : Code} {D : va_G} {a : Nat → Nat} {cI cJ : ClassId} {tk : Nat} {tf : Nat → Int32} (C : Cx p s m args meth c RX0 cX0_errorHandled 2 D cI cJ tk tf (AR a 25 s.heap.size)) (hr : meth.sig.returnType = (some .int)) : ∀ (n : Nat) (q1 : Int32) (S : St) (x : Int32 × St) (H : Heap) (locs : List Loc) (ls : Array Slot), fX0_errorHandled_13_7 n q1 S = some x → Wd D (wE a cI cJ) (AR a 25 s.heap.size) s S H locs → lv_has ls 2 [(0, .ref (a 13)), (1, .int q1)] → W p l e { frames := 0, cells := 0, slots := 0, locals := 0 } s m args below meth c H locs 0 0 (MQ below (Qi D (wE a cI cJ) (AR a 25 s.heap.size) x) args s 0 0 (AR a 25 s.heap.size)) (F0 m 7 ls []) := by
  intro n
  induction n with
  | zero => intro q1 S x H locs ls hf G hl; cases hf
  | succ n ih =>
    intro q1 S x H locs ls hf G hl
    rw [fX0_errorHandled_13_7.eq_2] at hf
    refine lv_iload_n C.1 C.2.1 dX0_errorHandled_7 rfl (lv_at hl 1 rfl) ?_
    refine lv_if_lt (tgt := 44) C.1 C.2.1 dX0_errorHandled_8 (by decide) (fun c1 => ?_) (fun c1 => ?_)
    · replace hf := ifp c1 hf
      exact rX0_errorHandled_13_44 C hr S _ _ _ _ hf G (lv_sub hl [] rfl)
    · replace hf := ifq c1 hf
      refine lv_aload_n C.1 C.2.1 dX0_errorHandled_11 rfl (lv_at hl 0 rfl) ?_
      refine gE_13_0 C G k_168 dX0_errorHandled_12 ?_
      refine lv_iload_n C.1 C.2.1 dX0_errorHandled_15 rfl (lv_at hl 1 rfl) ?_
      obtain ⟨hi2, hf⟩ := ifn hf
      refine aE_14 C G hi2 dX0_errorHandled_16 ?_
      refine lv_iconst (v := 3) C.1 C.2.1 dX0_errorHandled_17 (by decide) ?_
      refine lv_icmp_eq (tgt := 44) C.1 C.2.1 dX0_errorHandled_18 (by decide) (fun c3 => ?_) (fun c3 => ?_)
      · replace hf := ifp c3 hf
        exact rX0_errorHandled_13_44 C hr S _ _ _ _ hf G (lv_sub hl [] rfl)
      · replace hf := ifq c3 hf
        refine lv_aload_n C.1 C.2.1 dX0_errorHandled_21 rfl (lv_at hl 0 rfl) ?_
        refine gE_13_0 C G k_168 dX0_errorHandled_22 ?_
        refine lv_iload_n C.1 C.2.1 dX0_errorHandled_25 rfl (lv_at hl 1 rfl) ?_
        obtain ⟨hi4, hf⟩ := ifn hf
        refine aE_14 C G hi4 dX0_errorHandled_26 ?_
        refine lv_iconst (v := 4) C.1 C.2.1 dX0_errorHandled_27 (by decide) ?_
        refine lv_icmp_ne (tgt := 38) C.1 C.2.1 dX0_errorHandled_28 (by decide) (fun c5 => ?_) (fun c5 => ?_)
        · replace hf := ifq c5 hf
          obtain ⟨y7, ey7, hf⟩ := stv_e hf
          refine lv_iinc (v := y7) (lv' := [(1, .int y7), (0, .ref (a 13))]) C.1 C.2.1 dX0_errorHandled_38 hl (k := 1) rfl (by rw [ey7]; rfl) (by decide) rfl (fun ls hl => ?_)
          refine lv_goto (tgt := 7) C.1 C.2.1 dX0_errorHandled_41 (by decide) ?_
          exact ih y7 S _ _ _ _ hf G (lv_sub hl [1, 0] rfl)
        · replace hf := ifp c5 hf
          refine lv_aload_n C.1 C.2.1 dX0_errorHandled_31 rfl (lv_at hl 0 rfl) ?_
          refine gE_13_1 C G k_169 dX0_errorHandled_32 ?_
          refine lv_iload_n C.1 C.2.1 dX0_errorHandled_35 rfl (lv_at hl 1 rfl) ?_
          obtain ⟨hi6, hf⟩ := ifn hf
          refine aE_15 C G hi6 dX0_errorHandled_36 ?_
          exact r_iret C hr G hf dX0_errorHandled_37
set_option maxRecDepth 100000 in
set_option maxHeartbeats 4000000 in
theorem mX0_errorHandled_13 (l : Launch) (D : va_G) (a : Nat → Nat) (cI cJ : ClassId) (tk : Nat) (tf : Nat → Int32) (S : St) (x : Int32 × St) (hf : fX0_errorHandled_13 S = some x) : Mi l D (wE a cI cJ) a 25 cI cJ tk tf yX0_errorHandled cX0_errorHandled 2 (some .int) { frames := 0, cells := 0, slots := 0, locals := 0 } [.ref (a 13)] S x := by
  refine opn_i (by decide +kernel) (Nat.le_of_ble_eq_true rfl) (fun p e s m below meth c C hr G ls hl => ?_)
  replace hl : lv_has ls 2 [(0, .ref (a 13))] := hl
  unfold fX0_errorHandled_13 at hf
  refine lv_aload_n C.1 C.2.1 dX0_errorHandled_0 rfl (lv_at hl 0 rfl) ?_
  refine gE_13_6 C G k_174 dX0_errorHandled_1 ?_
  refine lv_iconst (v := 1) C.1 C.2.1 dX0_errorHandled_4 (by decide) ?_
  refine lv_isub C.1 C.2.1 dX0_errorHandled_5 ?_
  obtain ⟨y1, ey1, hf⟩ := stv_e hf
  refine nm_i ey1 ?_
  refine lv_istore_n (lv' := [(1, .int y1), (0, .ref (a 13))]) C.1 C.2.1 dX0_errorHandled_6 rfl hl (by decide) rfl (fun ls hl => ?_)
  exact rX0_errorHandled_13_7 C hr 500 y1 S _ _ _ _ hf G (lv_sub hl [1, 0] rfl)
set_option maxRecDepth 100000 in
set_option maxHeartbeats 4000000 in
theorem rX1_of_11_20 {p : Program} {l : Launch} {e : Env} {s : State} {m : MethodId} {args : Array Value} {below : List Frame} {meth : Method} {c : Code} {D : va_G} {a : Nat → Nat} {cI cJ : ClassId} {tk : Nat} {tf : Nat → Int32} (C : Cx p s m args meth c RX1 cX1_of 2 D cI cJ tk tf (AR a 25 s.heap.size)) (hr : meth.sig.returnType = (some .int)) : ∀ (S : St) (x : Int32 × St) (H : Heap) (locs : List Loc) (ls : Array Slot), fX1_of_11_20 S = some x → Wd D (wE a cI cJ) (AR a 25 s.heap.size) s S H locs → lv_has ls 2 [] → W p l e { frames := 0, cells := 0, slots := 0, locals := 0 } s m args below meth c H locs 0 0 (MQ below (Qi D (wE a cI cJ) (AR a 25 s.heap.size) x) args s 0 0 (AR a 25 s.heap.size)) (F0 m 20 ls []) := by
  intro S x H locs ls hf G hl
  unfold fX1_of_11_20 at hf
  refine lv_iconst (v := (-1)) C.1 C.2.1 dX1_of_20 (by decide) ?_
  exact r_iret C hr G hf dX1_of_21
set_option maxRecDepth 100000 in
set_option maxHeartbeats 4000000 in
theorem mX1_of_11 (l : Launch) (D : va_G) (a : Nat → Nat) (cI cJ : ClassId) (tk : Nat) (tf : Nat → Int32) (p1 : Int32) (S : St) (x : Int32 × St) (hf : fX1_of_11 p1 S = some x) : Mi l D (wE a cI cJ) a 25 cI cJ tk tf yX1_of cX1_of 2 (some .int) { frames := 0, cells := 0, slots := 0, locals := 0 } [.ref (a 11), .int p1] S x := by
  refine opn_i (by decide +kernel) (Nat.le_of_ble_eq_true rfl) (fun p e s m below meth c C hr G ls hl => ?_)
  replace hl : lv_has ls 2 [(0, .ref (a 11)), (1, .int p1)] := hl
  unfold fX1_of_11 at hf
  refine lv_iload_n C.1 C.2.1 dX1_of_0 rfl (lv_at hl 1 rfl) ?_
  refine lv_iconst (v := 1) C.1 C.2.1 dX1_of_1 (by decide) ?_
  refine lv_icmp_lt (tgt := 20) C.1 C.2.1 dX1_of_2 (by decide) (fun c1 => ?_) (fun c1 => ?_)
  · replace hf := ifp c1 hf
    exact rX1_of_11_20 C hr S _ _ _ _ hf G (lv_sub hl [] rfl)
  · replace hf := ifq c1 hf
    refine lv_iload_n C.1 C.2.1 dX1_of_5 rfl (lv_at hl 1 rfl) ?_
    refine lv_bipush (v := 11) C.1 C.2.1 dX1_of_6 (by decide) ?_
    refine lv_icmp_gt (tgt := 20) C.1 C.2.1 dX1_of_8 (by decide) (fun c2 => ?_) (fun c2 => ?_)
    · replace hf := ifp c2 hf
      exact rX1_of_11_20 C hr S _ _ _ _ hf G (lv_sub hl [] rfl)
    · replace hf := ifq c2 hf
      refine lv_aload_n C.1 C.2.1 dX1_of_11 rfl (lv_at hl 0 rfl) ?_
      refine gE_11_0 C G k_158 dX1_of_12 ?_
      refine lv_iload_n C.1 C.2.1 dX1_of_15 rfl (lv_at hl 1 rfl) ?_
      obtain ⟨hi3, hf⟩ := ifn hf
      refine aE_12 C G hi3 dX1_of_16 ?_
      refine lv_goto (tgt := 21) C.1 C.2.1 dX1_of_17 (by decide) ?_
      exact r_iret C hr G hf dX1_of_21
set_option maxRecDepth 100000 in
set_option maxHeartbeats 4000000 in
theorem rX2_copy_21_5_46 {p : Program} {l : Launch} {e : Env} {s : State} {m : MethodId} {args : Array Value} {below : List Frame} {meth : Method} {c : Code} {D : va_G} {a : Nat → Nat} {cI cJ : ClassId} {tk : Nat} {tf : Nat → Int32} (C : Cx p s m args meth c RX2 cX2_copy 3 D cI cJ tk tf (AR a 25 s.heap.size)) (hr : meth.sig.returnType = none) : ∀ (S : St) (x : Int32 × St) (H : Heap) (locs : List Loc) (ls : Array Slot), fX2_copy_21_5_46 S = some x → Wd D (wE a cI cJ) (AR a 25 s.heap.size) s S H locs → lv_has ls 3 [(0, .ref (a 21)), (1, .ref (a 5))] → W p l e { frames := 0, cells := 0, slots := 0, locals := 0 } s m args below meth c H locs 0 0 (MQ below (Qv D (wE a cI cJ) (AR a 25 s.heap.size) x) args s 0 0 (AR a 25 s.heap.size)) (F0 m 46 ls []) := by
  intro S x H locs ls hf G hl
  unfold fX2_copy_21_5_46 at hf
  refine lv_aload_n C.1 C.2.1 dX2_copy_46 rfl (lv_at hl 0 rfl) ?_
  refine lv_aload_n C.1 C.2.1 dX2_copy_47 rfl (lv_at hl 1 rfl) ?_
  refine gE_5_2 C G k_112 dX2_copy_48 ?_
  refine pE_21_2 C G k_112 dX2_copy_51 (fun H locs G => ?_)
  obtain ⟨S1, eS1, hf⟩ := stp_e hf
  rw [← eS1] at G
  clear eS1
  exact r_vret C hr G hf dX2_copy_54
set_option maxRecDepth 100000 in
set_option maxHeartbeats 4000000 in
theorem rX2_copy_21_5_2 {p : Program} {l : Launch} {e : Env} {s : State} {m : MethodId} {args : Array Value} {below : List Frame} {meth : Method} {c : Code} {D : va_G} {a : Nat → Nat} {cI cJ : ClassId} {tk : Nat} {tf : Nat → Int32} (C : Cx p s m args meth c RX2 cX2_copy 3 D cI cJ tk tf (AR a 25 s.heap.size)) (hr : meth.sig.returnType = none) : ∀ (n : Nat) (q2 : Int32) (S : St) (x : Int32 × St) (H : Heap) (locs : List Loc) (ls : Array Slot), fX2_copy_21_5_2 n q2 S = some x → Wd D (wE a cI cJ) (AR a 25 s.heap.size) s S H locs → lv_has ls 3 [(0, .ref (a 21)), (1, .ref (a 5)), (2, .int q2)] → W p l e { frames := 0, cells := 0, slots := 0, locals := 0 } s m args below meth c H locs 0 0 (MQ below (Qv D (wE a cI cJ) (AR a 25 s.heap.size) x) args s 0 0 (AR a 25 s.heap.size)) (F0 m 2 ls []) := by
  intro n
  induction n with
  | zero => intro q2 S x H locs ls hf G hl; cases hf
  | succ n ih =>
    intro q2 S x H locs ls hf G hl
    rw [fX2_copy_21_5_2.eq_2] at hf
    refine lv_iload_n C.1 C.2.1 dX2_copy_2 rfl (lv_at hl 2 rfl) ?_
    refine lv_aload_n C.1 C.2.1 dX2_copy_3 rfl (lv_at hl 1 rfl) ?_
    refine gE_5_2 C G k_112 dX2_copy_4 ?_
    refine lv_icmp_ge (tgt := 46) C.1 C.2.1 dX2_copy_7 (by decide) (fun c1 => ?_) (fun c1 => ?_)
    · replace hf := ifp c1 hf
      exact rX2_copy_21_5_46 C hr S _ _ _ _ hf G (lv_sub hl [0, 1] rfl)
    · replace hf := ifq c1 hf
      refine lv_iload_n C.1 C.2.1 dX2_copy_10 rfl (lv_at hl 2 rfl) ?_
      refine lv_bipush (v := 60) C.1 C.2.1 dX2_copy_11 (by decide) ?_
      refine lv_icmp_ge (tgt := 46) C.1 C.2.1 dX2_copy_13 (by decide) (fun c2 => ?_) (fun c2 => ?_)
      · replace hf := ifp c2 hf
        exact rX2_copy_21_5_46 C hr S _ _ _ _ hf G (lv_sub hl [0, 1] rfl)
      · replace hf := ifq c2 hf
        refine lv_aload_n C.1 C.2.1 dX2_copy_16 rfl (lv_at hl 0 rfl) ?_
        refine gE_21_0 C G k_110 dX2_copy_17 ?_
        refine lv_iload_n C.1 C.2.1 dX2_copy_20 rfl (lv_at hl 2 rfl) ?_
        refine lv_aload_n C.1 C.2.1 dX2_copy_21 rfl (lv_at hl 1 rfl) ?_
        refine gE_5_0 C G k_110 dX2_copy_22 ?_
        refine lv_iload_n C.1 C.2.1 dX2_copy_25 rfl (lv_at hl 2 rfl) ?_
        obtain ⟨hi3, hf⟩ := ifn hf
        refine aE_6 C G hi3 dX2_copy_26 ?_
        obtain ⟨hi4, hf⟩ := ifn hf
        refine sE_22 C G hi4 dX2_copy_27 (fun H locs G => ?_)
        obtain ⟨S4, eS4, hf⟩ := stp_e hf
        rw [← eS4] at G
        clear eS4
        refine lv_aload_n C.1 C.2.1 dX2_copy_28 rfl (lv_at hl 0 rfl) ?_
        refine gE_21_1 C G k_111 dX2_copy_29 ?_
        refine lv_iload_n C.1 C.2.1 dX2_copy_32 rfl (lv_at hl 2 rfl) ?_
        refine lv_aload_n C.1 C.2.1 dX2_copy_33 rfl (lv_at hl 1 rfl) ?_
        refine gE_5_1 C G k_111 dX2_copy_34 ?_
        refine lv_iload_n C.1 C.2.1 dX2_copy_37 rfl (lv_at hl 2 rfl) ?_
        obtain ⟨hi5, hf⟩ := ifn hf
        refine aE_7 C G hi5 dX2_copy_38 ?_
        obtain ⟨hi6, hf⟩ := ifn hf
        refine sE_23 C G hi6 dX2_copy_39 (fun H locs G => ?_)
        obtain ⟨S6, eS6, hf⟩ := stp_e hf
        rw [← eS6] at G
        clear eS6
        obtain ⟨y7, ey7, hf⟩ := stv_e hf
        refine lv_iinc (v := y7) (lv' := [(2, .int y7), (0, .ref (a 21)), (1, .ref (a 5))]) C.1 C.2.1 dX2_copy_40 hl (k := 2) rfl (by rw [ey7]; rfl) (by decide) rfl (fun ls hl => ?_)
        refine lv_goto (tgt := 2) C.1 C.2.1 dX2_copy_43 (by decide) ?_
        exact ih y7 S6 _ _ _ _ hf G (lv_sub hl [1, 2, 0] rfl)
set_option maxRecDepth 100000 in
set_option maxHeartbeats 4000000 in
theorem mX2_copy_21_5 (l : Launch) (D : va_G) (a : Nat → Nat) (cI cJ : ClassId) (tk : Nat) (tf : Nat → Int32) (S : St) (x : Int32 × St) (hf : fX2_copy_21_5 S = some x) : Mv l D (wE a cI cJ) a 25 cI cJ tk tf yX2_copy cX2_copy 3 { frames := 0, cells := 0, slots := 0, locals := 0 } [.ref (a 21), .ref (a 5)] S x := by
  refine opn_v (by decide +kernel) (Nat.le_of_ble_eq_true rfl) (fun p e s m below meth c C hr G ls hl => ?_)
  replace hl : lv_has ls 3 [(0, .ref (a 21)), (1, .ref (a 5))] := hl
  unfold fX2_copy_21_5 at hf
  refine lv_iconst (v := 0) C.1 C.2.1 dX2_copy_0 (by decide) ?_
  obtain ⟨y1, ey1, hf⟩ := stv_e hf
  refine nm_i ey1 ?_
  refine lv_istore_n (lv' := [(2, .int y1), (0, .ref (a 21)), (1, .ref (a 5))]) C.1 C.2.1 dX2_copy_1 rfl hl (by decide) rfl (fun ls hl => ?_)
  exact rX2_copy_21_5_2 C hr 500 y1 S _ _ _ _ hf G (lv_sub hl [1, 2, 0] rfl)
set_option maxRecDepth 100000 in
set_option maxHeartbeats 4000000 in
theorem mX5_tell_20_5 (l : Launch) (D : va_G) (a : Nat → Nat) (cI cJ : ClassId) (tk : Nat) (tf : Nat → Int32) (p1 : Int32) (p2 : Int32) (p3 : Int32) (S : St) (x : Int32 × St) (hf : fX5_tell_20_5 p1 p2 p3 S = some x) : Mv l D (wE a cI cJ) a 25 cI cJ tk tf yX5_tell cX5_tell 5 { frames := 1, cells := 0, slots := 0, locals := 22 } [.ref (a 20), .int p1, .int p2, .int p3, .ref (a 5)] S x := by
  refine opn_v (by decide +kernel) (Nat.le_of_ble_eq_true rfl) (fun p e s m below meth c C hr G ls hl => ?_)
  replace hl : lv_has ls 5 [(0, .ref (a 20)), (1, .int p1), (2, .int p2), (3, .int p3), (4, .ref (a 5))] := hl
  unfold fX5_tell_20_5 at hf
  refine lv_aload_n C.1 C.2.1 dX5_tell_0 rfl (lv_at hl 0 rfl) ?_
  refine lv_iload_n C.1 C.2.1 dX5_tell_1 rfl (lv_at hl 1 rfl) ?_
  refine pE_20_1 C G k_203 dX5_tell_2 (fun H locs G => ?_)
  obtain ⟨S1, eS1, hf⟩ := stp_e hf
  rw [← eS1] at G
  clear eS1
  refine lv_aload_n C.1 C.2.1 dX5_tell_5 rfl (lv_at hl 0 rfl) ?_
  refine lv_iload_n C.1 C.2.1 dX5_tell_6 rfl (lv_at hl 2 rfl) ?_
  refine pE_20_2 C G k_204 dX5_tell_7 (fun H locs G => ?_)
  obtain ⟨S2, eS2, hf⟩ := stp_e hf
  rw [← eS2] at G
  clear eS2
  refine lv_aload_n C.1 C.2.1 dX5_tell_10 rfl (lv_at hl 0 rfl) ?_
  refine lv_iload_n C.1 C.2.1 dX5_tell_11 rfl (lv_at hl 3 rfl) ?_
  refine pE_20_3 C G k_205 dX5_tell_12 (fun H locs G => ?_)
  obtain ⟨S3, eS3, hf⟩ := stp_e hf
  rw [← eS3] at G
  clear eS3
  refine lv_aload_n C.1 C.2.1 dX5_tell_15 rfl (lv_at hl 0 rfl) ?_
  refine lv_dup C.1 C.2.1 dX5_tell_16 rfl ?_
  refine gE_20_4 C G k_206 dX5_tell_17 ?_
  refine lv_iconst (v := 1) C.1 C.2.1 dX5_tell_20 (by decide) ?_
  refine lv_iadd C.1 C.2.1 dX5_tell_21 ?_
  refine pE_20_4 C G k_206 dX5_tell_22 (fun H locs G => ?_)
  obtain ⟨S4, eS4, hf⟩ := stp_e hf
  rw [← eS4] at G
  clear eS4
  refine lv_aload_n C.1 C.2.1 dX5_tell_25 rfl (lv_at hl 0 rfl) ?_
  refine lv_iconst (v := 1) C.1 C.2.1 dX5_tell_26 (by decide) ?_
  refine pE_20_5 C G (Or.inr rfl) k_207 dX5_tell_27 (fun H locs G => ?_)
  obtain ⟨S5, eS5, hf⟩ := stp_e hf
  rw [← eS5] at G
  clear eS5
  refine lv_aload_n C.1 C.2.1 dX5_tell_30 rfl (lv_at hl 0 rfl) ?_
  refine gE_20_0 C G k_202 dX5_tell_31 ?_
  refine lv_aload C.1 C.2.1 dX5_tell_34 (lv_at hl 4 rfl) ?_
  obtain ⟨r6, S6, eS6, hf⟩ := bnd_e hf
  refine r_calv (As := [.ref (a 5)]) (na := 1) C adE G (mX2_copy_21_5 l D a cI cJ tk tf S5 _ eS6) k_562 k_563 k_564 k_62 k_565 (q0 := 21) rfl (ci := 2) rfl (by decide +kernel) ⟨Nat.le_of_ble_eq_true rfl, Nat.le_of_ble_eq_true rfl⟩ rfl rfl ⟨Nat.zero_le _, Nat.zero_le _⟩ rfl hl.1 rfl (Nat.le_of_ble_eq_true rfl) dX5_tell_36 (fun H locs G => ?_)
  exact r_vret C hr G hf dX5_tell_39
set_option maxRecDepth 100000 in
set_option maxHeartbeats 4000000 in
theorem mX0_roomFor_13 (l : Launch) (D : va_G) (a : Nat → Nat) (cI cJ : ClassId) (tk : Nat) (tf : Nat → Int32) (p1 : Int32) (S : St) (x : Int32 × St) (hf : fX0_roomFor_13 p1 S = some x) : Mi l D (wE a cI cJ) a 25 cI cJ tk tf yX0_roomFor cX0_roomFor 2 (some .boolean) { frames := 0, cells := 0, slots := 0, locals := 0 } [.ref (a 13), .int p1] S x := by
  refine opn_i (by decide +kernel) (Nat.le_of_ble_eq_true rfl) (fun p e s m below meth c C hr G ls hl => ?_)
  replace hl : lv_has ls 2 [(0, .ref (a 13)), (1, .int p1)] := hl
  unfold fX0_roomFor_13 at hf
  refine lv_aload_n C.1 C.2.1 dX0_roomFor_0 rfl (lv_at hl 0 rfl) ?_
  refine gE_13_6 C G k_174 dX0_roomFor_1 ?_
  refine lv_iload_n C.1 C.2.1 dX0_roomFor_4 rfl (lv_at hl 1 rfl) ?_
  refine lv_iadd C.1 C.2.1 dX0_roomFor_5 ?_
  refine lv_bipush (v := 30) C.1 C.2.1 dX0_roomFor_6 (by decide) ?_
  refine lv_icmp_gt (tgt := 15) C.1 C.2.1 dX0_roomFor_8 (by decide) (fun c1 => ?_) (fun c1 => ?_)
  · replace hf := ifp c1 hf
    refine lv_iconst (v := 0) C.1 C.2.1 dX0_roomFor_15 (by decide) ?_
    exact r_zret C hr (Or.inl rfl) G hf dX0_roomFor_16
  · replace hf := ifq c1 hf
    refine lv_iconst (v := 1) C.1 C.2.1 dX0_roomFor_11 (by decide) ?_
    refine lv_goto (tgt := 16) C.1 C.2.1 dX0_roomFor_12 (by decide) ?_
    exact r_zret C hr (Or.inr rfl) G hf dX0_roomFor_16
set_option maxRecDepth 100000 in
set_option maxHeartbeats 4000000 in
theorem rX0_topmostStopped_13_7 {p : Program} {l : Launch} {e : Env} {s : State} {m : MethodId} {args : Array Value} {below : List Frame} {meth : Method} {c : Code} {D : va_G} {a : Nat → Nat} {cI cJ : ClassId} {tk : Nat} {tf : Nat → Int32} (C : Cx p s m args meth c RX0 cX0_topmostStopped 2 D cI cJ tk tf (AR a 25 s.heap.size)) (hr : meth.sig.returnType = (some .int)) : ∀ (n : Nat) (q1 : Int32) (S : St) (x : Int32 × St) (H : Heap) (locs : List Loc) (ls : Array Slot), fX0_topmostStopped_13_7 n q1 S = some x → Wd D (wE a cI cJ) (AR a 25 s.heap.size) s S H locs → lv_has ls 2 [(0, .ref (a 13)), (1, .int q1)] → W p l e { frames := 0, cells := 0, slots := 0, locals := 0 } s m args below meth c H locs 0 0 (MQ below (Qi D (wE a cI cJ) (AR a 25 s.heap.size) x) args s 0 0 (AR a 25 s.heap.size)) (F0 m 7 ls []) := by
  intro n
  induction n with
  | zero => intro q1 S x H locs ls hf G hl; cases hf
  | succ n ih =>
    intro q1 S x H locs ls hf G hl
    rw [fX0_topmostStopped_13_7.eq_2] at hf
    refine lv_iload_n C.1 C.2.1 dX0_topmostStopped_7 rfl (lv_at hl 1 rfl) ?_
    refine lv_if_lt (tgt := 29) C.1 C.2.1 dX0_topmostStopped_8 (by decide) (fun c1 => ?_) (fun c1 => ?_)
    · replace hf := ifp c1 hf
      refine lv_iconst (v := (-1)) C.1 C.2.1 dX0_topmostStopped_29 (by decide) ?_
      exact r_iret C hr G hf dX0_topmostStopped_30
    · replace hf := ifq c1 hf
      refine lv_aload_n C.1 C.2.1 dX0_topmostStopped_11 rfl (lv_at hl 0 rfl) ?_
      refine gE_13_0 C G k_168 dX0_topmostStopped_12 ?_
      refine lv_iload_n C.1 C.2.1 dX0_topmostStopped_15 rfl (lv_at hl 1 rfl) ?_
      obtain ⟨hi2, hf⟩ := ifn hf
      refine aE_14 C G hi2 dX0_topmostStopped_16 ?_
      refine lv_iconst (v := 3) C.1 C.2.1 dX0_topmostStopped_17 (by decide) ?_
      refine lv_icmp_ne (tgt := 23) C.1 C.2.1 dX0_topmostStopped_18 (by decide) (fun c3 => ?_) (fun c3 => ?_)
      · replace hf := ifq c3 hf
        obtain ⟨y4, ey4, hf⟩ := stv_e hf
        refine lv_iinc (v := y4) (lv' := [(1, .int y4), (0, .ref (a 13))]) C.1 C.2.1 dX0_topmostStopped_23 hl (k := 1) rfl (by rw [ey4]; rfl) (by decide) rfl (fun ls hl => ?_)
        refine lv_goto (tgt := 7) C.1 C.2.1 dX0_topmostStopped_26 (by decide) ?_
        exact ih y4 S _ _ _ _ hf G (lv_sub hl [1, 0] rfl)
      · replace hf := ifp c3 hf
        refine lv_iload_n C.1 C.2.1 dX0_topmostStopped_21 rfl (lv_at hl 1 rfl) ?_
        exact r_iret C hr G hf dX0_topmostStopped_22
set_option maxRecDepth 100000 in
set_option maxHeartbeats 4000000 in
theorem mX0_topmostStopped_13 (l : Launch) (D : va_G) (a : Nat → Nat) (cI cJ : ClassId) (tk : Nat) (tf : Nat → Int32) (S : St) (x : Int32 × St) (hf : fX0_topmostStopped_13 S = some x) : Mi l D (wE a cI cJ) a 25 cI cJ tk tf yX0_topmostStopped cX0_topmostStopped 2 (some .int) { frames := 0, cells := 0, slots := 0, locals := 0 } [.ref (a 13)] S x := by
  refine opn_i (by decide +kernel) (Nat.le_of_ble_eq_true rfl) (fun p e s m below meth c C hr G ls hl => ?_)
  replace hl : lv_has ls 2 [(0, .ref (a 13))] := hl
  unfold fX0_topmostStopped_13 at hf
  refine lv_aload_n C.1 C.2.1 dX0_topmostStopped_0 rfl (lv_at hl 0 rfl) ?_
  refine gE_13_6 C G k_174 dX0_topmostStopped_1 ?_
  refine lv_iconst (v := 1) C.1 C.2.1 dX0_topmostStopped_4 (by decide) ?_
  refine lv_isub C.1 C.2.1 dX0_topmostStopped_5 ?_
  obtain ⟨y1, ey1, hf⟩ := stv_e hf
  refine nm_i ey1 ?_
  refine lv_istore_n (lv' := [(1, .int y1), (0, .ref (a 13))]) C.1 C.2.1 dX0_topmostStopped_6 rfl hl (by decide) rfl (fun ls hl => ?_)
  exact rX0_topmostStopped_13_7 C hr 500 y1 S _ _ _ _ hf G (lv_sub hl [1, 0] rfl)
set_option maxRecDepth 100000 in
set_option maxHeartbeats 4000000 in
theorem mX0_cutTo_13 (l : Launch) (D : va_G) (a : Nat → Nat) (cI cJ : ClassId) (tk : Nat) (tf : Nat → Int32) (p1 : Int32) (S : St) (x : Int32 × St) (hf : fX0_cutTo_13 p1 S = some x) : Mv l D (wE a cI cJ) a 25 cI cJ tk tf yX0_cutTo cX0_cutTo 2 { frames := 0, cells := 0, slots := 0, locals := 0 } [.ref (a 13), .int p1] S x := by
  refine opn_v (by decide +kernel) (Nat.le_of_ble_eq_true rfl) (fun p e s m below meth c C hr G ls hl => ?_)
  replace hl : lv_has ls 2 [(0, .ref (a 13)), (1, .int p1)] := hl
  unfold fX0_cutTo_13 at hf
  refine lv_iload_n C.1 C.2.1 dX0_cutTo_0 rfl (lv_at hl 1 rfl) ?_
  refine lv_if_lt (tgt := 17) C.1 C.2.1 dX0_cutTo_1 (by decide) (fun c1 => ?_) (fun c1 => ?_)
  · replace hf := ifp c1 hf
    exact r_vret C hr G hf dX0_cutTo_17
  · replace hf := ifq c1 hf
    refine lv_iload_n C.1 C.2.1 dX0_cutTo_4 rfl (lv_at hl 1 rfl) ?_
    refine lv_aload_n C.1 C.2.1 dX0_cutTo_5 rfl (lv_at hl 0 rfl) ?_
    refine gE_13_6 C G k_174 dX0_cutTo_6 ?_
    refine lv_icmp_gt (tgt := 17) C.1 C.2.1 dX0_cutTo_9 (by decide) (fun c2 => ?_) (fun c2 => ?_)
    · replace hf := ifp c2 hf
      exact r_vret C hr G hf dX0_cutTo_17
    · replace hf := ifq c2 hf
      refine lv_aload_n C.1 C.2.1 dX0_cutTo_12 rfl (lv_at hl 0 rfl) ?_
      refine lv_iload_n C.1 C.2.1 dX0_cutTo_13 rfl (lv_at hl 1 rfl) ?_
      refine pE_13_6 C G k_174 dX0_cutTo_14 (fun H locs G => ?_)
      obtain ⟨S3, eS3, hf⟩ := stp_e hf
      rw [← eS3] at G
      clear eS3
      exact r_vret C hr G hf dX0_cutTo_17
set_option maxRecDepth 100000 in
set_option maxHeartbeats 4000000 in
theorem mX2_full_5 (l : Launch) (D : va_G) (a : Nat → Nat) (cI cJ : ClassId) (tk : Nat) (tf : Nat → Int32) (S : St) (x : Int32 × St) (hf : fX2_full_5 S = some x) : Mi l D (wE a cI cJ) a 25 cI cJ tk tf yX2_full cX2_full 1 (some .boolean) { frames := 0, cells := 0, slots := 0, locals := 0 } [.ref (a 5)] S x := by
  refine opn_i (by decide +kernel) (Nat.le_of_ble_eq_true rfl) (fun p e s m below meth c C hr G ls hl => ?_)
  replace hl : lv_has ls 1 [(0, .ref (a 5))] := hl
  unfold fX2_full_5 at hf
  refine lv_aload_n C.1 C.2.1 dX2_full_0 rfl (lv_at hl 0 rfl) ?_
  refine gE_5_2 C G k_112 dX2_full_1 ?_
  refine lv_bipush (v := 60) C.1 C.2.1 dX2_full_4 (by decide) ?_
  refine lv_icmp_lt (tgt := 13) C.1 C.2.1 dX2_full_6 (by decide) (fun c1 => ?_) (fun c1 => ?_)
  · replace hf := ifp c1 hf
    refine lv_iconst (v := 0) C.1 C.2.1 dX2_full_13 (by decide) ?_
    exact r_zret C hr (Or.inl rfl) G hf dX2_full_14
  · replace hf := ifq c1 hf
    refine lv_iconst (v := 1) C.1 C.2.1 dX2_full_9 (by decide) ?_
    refine lv_goto (tgt := 14) C.1 C.2.1 dX2_full_10 (by decide) ?_
    exact r_zret C hr (Or.inr rfl) G hf dX2_full_14
set_option maxRecDepth 100000 in
set_option maxHeartbeats 4000000 in
theorem rX7_stopBy_0_53 {p : Program} {l : Launch} {e : Env} {s : State} {m : MethodId} {args : Array Value} {below : List Frame} {meth : Method} {c : Code} {D : va_G} {a : Nat → Nat} {cI cJ : ClassId} {tk : Nat} {tf : Nat → Int32} (C : Cx p s m args meth c RX7 cX7_stopBy 3 D cI cJ tk tf (AR a 25 s.heap.size)) (hr : meth.sig.returnType = none) : ∀ (S : St) (x : Int32 × St) (H : Heap) (locs : List Loc) (ls : Array Slot), fX7_stopBy_0_53 S = some x → Wd D (wE a cI cJ) (AR a 25 s.heap.size) s S H locs → lv_has ls 3 [(0, .ref (a 0))] → W p l e { frames := 1, cells := 0, slots := 0, locals := 22 } s m args below meth c H locs 0 0 (MQ below (Qv D (wE a cI cJ) (AR a 25 s.heap.size) x) args s 0 0 (AR a 25 s.heap.size)) (F0 m 53 ls []) := by
  intro S x H locs ls hf G hl
  unfold fX7_stopBy_0_53 at hf
  refine lv_aload_n C.1 C.2.1 dX7_stopBy_53 rfl (lv_at hl 0 rfl) ?_
  refine gE_0_2 C G k_223 dX7_stopBy_54 ?_
  refine lv_iconst (v := 1) C.1 C.2.1 dX7_stopBy_57 (by decide) ?_
  refine lv_iconst (v := 1) C.1 C.2.1 dX7_stopBy_58 (by decide) ?_
  obtain ⟨r1, S1, eS1, hf⟩ := bnd_e hf
  refine r_cali (As := [.int (1 : Int32), .int (1 : Int32)]) (na := 2) C adE G (mX2_put_5 l D a cI cJ tk tf (1 : Int32) (1 : Int32) S _ eS1) k_288 k_289 k_290 k_62 k_291 (q0 := 5) rfl (ci := 2) rfl (by decide +kernel) ⟨Nat.le_of_ble_eq_true rfl, Nat.le_of_ble_eq_true rfl⟩ rfl rfl ⟨Nat.zero_le _, Nat.zero_le _⟩ rfl hl.1 rfl (Nat.le_of_ble_eq_true rfl) dX7_stopBy_59 (fun H locs G => ?_)
  refine lv_pop C.1 C.2.1 dX7_stopBy_62 rfl ?_
  exact r_vret C hr G hf dX7_stopBy_63
set_option maxRecDepth 100000 in
set_option maxHeartbeats 4000000 in
theorem mX7_stopBy_0 (l : Launch) (D : va_G) (a : Nat → Nat) (cI cJ : ClassId) (tk : Nat) (tf : Nat → Int32) (p1 : Int32) (S : St) (x : Int32 × St) (hf : fX7_stopBy_0 p1 S = some x) : Mv l D (wE a cI cJ) a 25 cI cJ tk tf yX7_stopBy cX7_stopBy 3 { frames := 1, cells := 0, slots := 0, locals := 22 } [.ref (a 0), .int p1] S x := by
  refine opn_v (by decide +kernel) (Nat.le_of_ble_eq_true rfl) (fun p e s m below meth c C hr G ls hl => ?_)
  replace hl : lv_has ls 3 [(0, .ref (a 0)), (1, .int p1)] := hl
  unfold fX7_stopBy_0 at hf
  refine lv_aload_n C.1 C.2.1 dX7_stopBy_0 rfl (lv_at hl 0 rfl) ?_
  refine gE_0_5 C G k_226 dX7_stopBy_1 ?_
  obtain ⟨r1, S1, eS1, hf⟩ := bnd_e hf
  refine r_cali (As := []) (na := 0) C adE G (mX0_topmostStopped_13 l D a cI cJ tk tf S _ eS1) k_445 k_446 k_447 k_66 k_448 (q0 := 13) rfl (ci := 0) rfl (by decide +kernel) ⟨Nat.le_of_ble_eq_true rfl, Nat.le_of_ble_eq_true rfl⟩ rfl rfl ⟨Nat.zero_le _, Nat.zero_le _⟩ rfl hl.1 rfl (Nat.le_of_ble_eq_true rfl) dX7_stopBy_4 (fun H locs G => ?_)
  refine lv_istore_n (lv' := [(2, .int r1), (0, .ref (a 0)), (1, .int p1)]) C.1 C.2.1 dX7_stopBy_7 rfl hl (by decide) rfl (fun ls hl => ?_)
  refine lv_iload_n C.1 C.2.1 dX7_stopBy_8 rfl (lv_at hl 0 rfl) ?_
  refine lv_iconst (v := (-1)) C.1 C.2.1 dX7_stopBy_9 (by decide) ?_
  refine lv_icmp_ne (tgt := 27) C.1 C.2.1 dX7_stopBy_10 (by decide) (fun c2 => ?_) (fun c2 => ?_)
  · replace hf := ifq c2 hf
    refine lv_aload_n C.1 C.2.1 dX7_stopBy_27 rfl (lv_at hl 1 rfl) ?_
    refine gE_0_5 C G k_226 dX7_stopBy_28 ?_
    refine lv_iload_n C.1 C.2.1 dX7_stopBy_31 rfl (lv_at hl 0 rfl) ?_
    obtain ⟨r5, S5, eS5, hf⟩ := bnd_e hf
    refine r_calv (As := [.int r1]) (na := 1) C adE G (mX0_cutTo_13 l D a cI cJ tk tf r1 S1 _ eS5) k_437 k_438 k_439 k_66 k_440 (q0 := 13) rfl (ci := 0) rfl (by decide +kernel) ⟨Nat.le_of_ble_eq_true rfl, Nat.le_of_ble_eq_true rfl⟩ rfl rfl ⟨Nat.zero_le _, Nat.zero_le _⟩ rfl hl.1 rfl (Nat.le_of_ble_eq_true rfl) dX7_stopBy_32 (fun H locs G => ?_)
    refine lv_aload_n C.1 C.2.1 dX7_stopBy_35 rfl (lv_at hl 1 rfl) ?_
    refine gE_0_2 C G k_223 dX7_stopBy_36 ?_
    obtain ⟨r6, S6, eS6, hf⟩ := bnd_e hf
    refine r_cali (As := []) (na := 0) C adE G (mX2_full_5 l D a cI cJ tk tf S5 _ eS6) k_449 k_450 k_451 k_62 k_452 (q0 := 5) rfl (ci := 2) rfl (by decide +kernel) ⟨Nat.le_of_ble_eq_true rfl, Nat.le_of_ble_eq_true rfl⟩ rfl rfl ⟨Nat.zero_le _, Nat.zero_le _⟩ rfl hl.1 rfl (Nat.le_of_ble_eq_true rfl) dX7_stopBy_39 (fun H locs G => ?_)
    refine lv_if_eq (tgt := 53) C.1 C.2.1 dX7_stopBy_42 (by decide) (fun c7 => ?_) (fun c7 => ?_)
    · replace hf := ifp c7 hf
      exact rX7_stopBy_0_53 C hr S6 _ _ _ _ hf G (lv_sub hl [1] rfl)
    · replace hf := ifq c7 hf
      refine lv_aload_n C.1 C.2.1 dX7_stopBy_45 rfl (lv_at hl 1 rfl) ?_
      refine gE_0_2 C G k_223 dX7_stopBy_46 ?_
      refine lv_iconst (v := 1) C.1 C.2.1 dX7_stopBy_49 (by decide) ?_
      obtain ⟨r8, S8, eS8, hf⟩ := bnd_e hf
      refine r_calv (As := [.int (1 : Int32)]) (na := 1) C adE G (mX2_takeOff_5 l D a cI cJ tk tf (1 : Int32) S6 _ eS8) k_300 k_301 k_302 k_62 k_303 (q0 := 5) rfl (ci := 2) rfl (by decide +kernel) ⟨Nat.le_of_ble_eq_true rfl, Nat.le_of_ble_eq_true rfl⟩ rfl rfl ⟨Nat.zero_le _, Nat.zero_le _⟩ rfl hl.1 rfl (Nat.le_of_ble_eq_true rfl) dX7_stopBy_50 (fun H locs G => ?_)
      exact rX7_stopBy_0_53 C hr S8 _ _ _ _ hf G (lv_sub hl [1] rfl)
  · replace hf := ifp c2 hf
    refine lv_aload_n C.1 C.2.1 dX7_stopBy_13 rfl (lv_at hl 1 rfl) ?_
    refine gE_0_5 C G k_226 dX7_stopBy_14 ?_
    refine lv_iconst (v := 0) C.1 C.2.1 dX7_stopBy_17 (by decide) ?_
    obtain ⟨r3, S3, eS3, hf⟩ := bnd_e hf
    refine r_calv (As := [.int (0 : Int32)]) (na := 1) C adE G (mX0_cutTo_13 l D a cI cJ tk tf (0 : Int32) S1 _ eS3) k_437 k_438 k_439 k_66 k_440 (q0 := 13) rfl (ci := 0) rfl (by decide +kernel) ⟨Nat.le_of_ble_eq_true rfl, Nat.le_of_ble_eq_true rfl⟩ rfl rfl ⟨Nat.zero_le _, Nat.zero_le _⟩ rfl hl.1 rfl (Nat.le_of_ble_eq_true rfl) dX7_stopBy_18 (fun H locs G => ?_)
    refine lv_aload_n C.1 C.2.1 dX7_stopBy_21 rfl (lv_at hl 1 rfl) ?_
    refine lv_iload_n C.1 C.2.1 dX7_stopBy_22 rfl (lv_at hl 2 rfl) ?_
    refine pE_0_8 C G k_229 dX7_stopBy_23 (fun H locs G => ?_)
    obtain ⟨S4, eS4, hf⟩ := stp_e hf
    rw [← eS4] at G
    clear eS4
    exact r_vret C hr G hf dX7_stopBy_26
set_option maxRecDepth 100000 in
set_option maxHeartbeats 4000000 in
theorem rX7_arise_0_53 {p : Program} {l : Launch} {e : Env} {s : State} {m : MethodId} {args : Array Value} {below : List Frame} {meth : Method} {c : Code} {D : va_G} {a : Nat → Nat} {cI cJ : ClassId} {tk : Nat} {tf : Nat → Int32} (C : Cx p s m args meth c RX7 cX7_arise 5 D cI cJ tk tf (AR a 25 s.heap.size)) (hr : meth.sig.returnType = none) : ∀ (q1 : Int32) (S : St) (x : Int32 × St) (H : Heap) (locs : List Loc) (ls : Array Slot), fX7_arise_0_53 q1 S = some x → Wd D (wE a cI cJ) (AR a 25 s.heap.size) s S H locs → lv_has ls 5 [(0, .ref (a 0)), (1, .int q1)] → W p l e { frames := 2, cells := 0, slots := 0, locals := 46 } s m args below meth c H locs 0 0 (MQ below (Qv D (wE a cI cJ) (AR a 25 s.heap.size) x) args s 0 0 (AR a 25 s.heap.size)) (F0 m 53 ls []) := by
  intro q1 S x H locs ls hf G hl
  unfold fX7_arise_0_53 at hf
  refine lv_aload_n C.1 C.2.1 dX7_arise_53 rfl (lv_at hl 0 rfl) ?_
  refine lv_iload_n C.1 C.2.1 dX7_arise_54 rfl (lv_at hl 1 rfl) ?_
  obtain ⟨r1, S1, eS1, hf⟩ := bnd_e hf
  refine r_calv (As := [.int q1]) (na := 1) C adE G (mX7_stopBy_0 l D a cI cJ tk tf q1 S _ eS1) k_441 k_443 k_12 k_59 k_444 (q0 := 0) rfl (ci := 7) rfl (by decide +kernel) ⟨Nat.le_of_ble_eq_true rfl, Nat.le_of_ble_eq_true rfl⟩ rfl rfl ⟨Nat.zero_le _, Nat.zero_le _⟩ rfl hl.1 rfl (Nat.le_of_ble_eq_true rfl) dX7_arise_55 (fun H locs G => ?_)
  refine lv_goto (tgt := 90) C.1 C.2.1 dX7_arise_58 (by decide) ?_
  exact r_vret C hr G hf dX7_arise_90
set_option maxRecDepth 100000 in
set_option maxHeartbeats 4000000 in
theorem mX7_arise_0 (l : Launch) (D : va_G) (a : Nat → Nat) (cI cJ : ClassId) (tk : Nat) (tf : Nat → Int32) (p1 : Int32) (p2 : Int32) (S : St) (x : Int32 × St) (hf : fX7_arise_0 p1 p2 S = some x) : Mv l D (wE a cI cJ) a 25 cI cJ tk tf yX7_arise cX7_arise 5 { frames := 2, cells := 0, slots := 0, locals := 46 } [.ref (a 0), .int p1, .int p2] S x := by
  refine opn_v (by decide +kernel) (Nat.le_of_ble_eq_true rfl) (fun p e s m below meth c C hr G ls hl => ?_)
  replace hl : lv_has ls 5 [(0, .ref (a 0)), (1, .int p1), (2, .int p2)] := hl
  unfold fX7_arise_0 at hf
  refine lv_aload_n C.1 C.2.1 dX7_arise_0 rfl (lv_at hl 0 rfl) ?_
  refine gE_0_5 C G k_226 dX7_arise_1 ?_
  obtain ⟨r1, S1, eS1, hf⟩ := bnd_e hf
  refine r_cali (As := []) (na := 0) C adE G (mX0_errorHandled_13 l D a cI cJ tk tf S _ eS1) k_550 k_551 k_552 k_66 k_553 (q0 := 13) rfl (ci := 0) rfl (by decide +kernel) ⟨Nat.le_of_ble_eq_true rfl, Nat.le_of_ble_eq_true rfl⟩ rfl rfl ⟨Nat.zero_le _, Nat.zero_le _⟩ rfl hl.1 rfl (Nat.le_of_ble_eq_true rfl) dX7_arise_4 (fun H locs G => ?_)
  refine lv_istore_n (lv' := [(3, .int r1), (0, .ref (a 0)), (1, .int p1), (2, .int p2)]) C.1 C.2.1 dX7_arise_7 rfl hl (by decide) rfl (fun ls hl => ?_)
  refine lv_aload_n C.1 C.2.1 dX7_arise_8 rfl (lv_at hl 1 rfl) ?_
  refine gE_0_4 C G k_225 dX7_arise_9 ?_
  refine lv_iload_n C.1 C.2.1 dX7_arise_12 rfl (lv_at hl 2 rfl) ?_
  obtain ⟨r2, S2, eS2, hf⟩ := bnd_e hf
  refine r_cali (As := [.int p1]) (na := 1) C adE G (mX1_of_11 l D a cI cJ tk tf p1 S1 _ eS2) k_554 k_555 k_556 k_65 k_557 (q0 := 11) rfl (ci := 1) rfl (by decide +kernel) ⟨Nat.le_of_ble_eq_true rfl, Nat.le_of_ble_eq_true rfl⟩ rfl rfl ⟨Nat.zero_le _, Nat.zero_le _⟩ rfl hl.1 rfl (Nat.le_of_ble_eq_true rfl) dX7_arise_13 (fun H locs G => ?_)
  refine lv_istore (lv' := [(4, .int r2), (3, .int r1), (0, .ref (a 0)), (1, .int p1), (2, .int p2)]) C.1 C.2.1 dX7_arise_16 hl (by decide) rfl (fun ls hl => ?_)
  refine lv_aload_n C.1 C.2.1 dX7_arise_18 rfl (lv_at hl 2 rfl) ?_
  refine gE_0_6 C G k_227 dX7_arise_19 ?_
  refine lv_iload_n C.1 C.2.1 dX7_arise_22 rfl (lv_at hl 3 rfl) ?_
  refine lv_iload_n C.1 C.2.1 dX7_arise_23 rfl (lv_at hl 4 rfl) ?_
  refine lv_iload_n C.1 C.2.1 dX7_arise_24 rfl (lv_at hl 1 rfl) ?_
  refine lv_aload_n C.1 C.2.1 dX7_arise_25 rfl (lv_at hl 2 rfl) ?_
  refine gE_0_2 C G k_223 dX7_arise_26 ?_
  obtain ⟨r3, S3, eS3, hf⟩ := bnd_e hf
  refine r_calv (As := [.int p1, .int p2, .int r1, .ref (a 5)]) (na := 4) C adE G (mX5_tell_20_5 l D a cI cJ tk tf p1 p2 r1 S2 _ eS3) k_558 k_559 k_560 k_67 k_561 (q0 := 20) rfl (ci := 5) rfl (by decide +kernel) ⟨Nat.le_of_ble_eq_true rfl, Nat.le_of_ble_eq_true rfl⟩ rfl rfl ⟨Nat.zero_le _, Nat.zero_le _⟩ rfl hl.1 rfl (Nat.le_of_ble_eq_true rfl) dX7_arise_29 (fun H locs G => ?_)
  refine lv_iload_n C.1 C.2.1 dX7_arise_32 rfl (lv_at hl 1 rfl) ?_
  refine lv_if_ne (tgt := 53) C.1 C.2.1 dX7_arise_33 (by decide) (fun c4 => ?_) (fun c4 => ?_)
  · replace hf := ifq c4 hf
    exact rX7_arise_0_53 C hr p1 S3 _ _ _ _ hf G (lv_sub hl [2, 3] rfl)
  · replace hf := ifp c4 hf
    refine lv_iload C.1 C.2.1 dX7_arise_36 (lv_at hl 0 rfl) ?_
    refine lv_iconst (v := (-1)) C.1 C.2.1 dX7_arise_38 (by decide) ?_
    refine lv_icmp_eq (tgt := 53) C.1 C.2.1 dX7_arise_39 (by decide) (fun c5 => ?_) (fun c5 => ?_)
    · replace hf := ifp c5 hf
      exact rX7_arise_0_53 C hr p1 S3 _ _ _ _ hf G (lv_sub hl [2, 3] rfl)
    · replace hf := ifq c5 hf
      refine lv_aload_n C.1 C.2.1 dX7_arise_42 rfl (lv_at hl 2 rfl) ?_
      refine gE_0_5 C G k_226 dX7_arise_43 ?_
      refine lv_iconst (v := 2) C.1 C.2.1 dX7_arise_46 (by decide) ?_
      obtain ⟨r6, S6, eS6, hf⟩ := bnd_e hf
      refine r_cali (As := [.int (2 : Int32)]) (na := 1) C adE G (mX0_roomFor_13 l D a cI cJ tk tf (2 : Int32) S3 _ eS6) k_386 k_387 k_388 k_66 k_389 (q0 := 13) rfl (ci := 0) rfl (by decide +kernel) ⟨Nat.le_of_ble_eq_true rfl, Nat.le_of_ble_eq_true rfl⟩ rfl rfl ⟨Nat.zero_le _, Nat.zero_le _⟩ rfl hl.1 rfl (Nat.le_of_ble_eq_true rfl) dX7_arise_47 (fun H locs G => ?_)
      refine lv_if_ne (tgt := 61) C.1 C.2.1 dX7_arise_50 (by decide) (fun c7 => ?_) (fun c7 => ?_)
      · replace hf := ifq c7 hf
        refine lv_aload_n C.1 C.2.1 dX7_arise_61 rfl (lv_at hl 2 rfl) ?_
        refine gE_0_5 C G k_226 dX7_arise_62 ?_
        refine lv_iconst (v := 4) C.1 C.2.1 dX7_arise_65 (by decide) ?_
        refine lv_iload_n C.1 C.2.1 dX7_arise_66 rfl (lv_at hl 3 rfl) ?_
        obtain ⟨r8, S8, eS8, hf⟩ := bnd_e hf
        refine r_calv (As := [.int (4 : Int32), .int p1]) (na := 2) C adE G (mX0_add_13 l D a cI cJ tk tf (4 : Int32) p1 S6 _ eS8) k_390 k_313 k_314 k_66 k_315 (q0 := 13) rfl (ci := 0) rfl (by decide +kernel) ⟨Nat.le_of_ble_eq_true rfl, Nat.le_of_ble_eq_true rfl⟩ rfl rfl ⟨Nat.zero_le _, Nat.zero_le _⟩ rfl hl.1 rfl (Nat.le_of_ble_eq_true rfl) dX7_arise_67 (fun H locs G => ?_)
        refine lv_aload_n C.1 C.2.1 dX7_arise_70 rfl (lv_at hl 2 rfl) ?_
        refine gE_0_5 C G k_226 dX7_arise_71 ?_
        refine lv_iconst (v := 0) C.1 C.2.1 dX7_arise_74 (by decide) ?_
        refine lv_iload C.1 C.2.1 dX7_arise_75 (lv_at hl 0 rfl) ?_
        obtain ⟨r9, S9, eS9, hf⟩ := bnd_e hf
        refine r_calv (As := [.int (0 : Int32), .int r2]) (na := 2) C adE G (mX0_add_13 l D a cI cJ tk tf (0 : Int32) r2 S8 _ eS9) k_390 k_313 k_314 k_66 k_315 (q0 := 13) rfl (ci := 0) rfl (by decide +kernel) ⟨Nat.le_of_ble_eq_true rfl, Nat.le_of_ble_eq_true rfl⟩ rfl rfl ⟨Nat.zero_le _, Nat.zero_le _⟩ rfl hl.1 rfl (Nat.le_of_ble_eq_true rfl) dX7_arise_77 (fun H locs G => ?_)
        refine lv_aload_n C.1 C.2.1 dX7_arise_80 rfl (lv_at hl 2 rfl) ?_
        refine lv_dup C.1 C.2.1 dX7_arise_81 rfl ?_
        refine gE_0_10 C G k_231 dX7_arise_82 ?_
        refine lv_iconst (v := 1) C.1 C.2.1 dX7_arise_85 (by decide) ?_
        refine lv_iadd C.1 C.2.1 dX7_arise_86 ?_
        refine pE_0_10 C G k_231 dX7_arise_87 (fun H locs G => ?_)
        obtain ⟨S10, eS10, hf⟩ := stp_e hf
        rw [← eS10] at G
        clear eS10
        exact r_vret C hr G hf dX7_arise_90
      · replace hf := ifp c7 hf
        exact rX7_arise_0_53 C hr p1 S6 _ _ _ _ hf G (lv_sub hl [2, 3] rfl)
set_option maxRecDepth 100000 in
set_option maxHeartbeats 4000000 in
theorem mX7_endStopped_0 (l : Launch) (D : va_G) (a : Nat → Nat) (cI cJ : ClassId) (tk : Nat) (tf : Nat → Int32) (S : St) (x : Int32 × St) (hf : fX7_endStopped_0 S = some x) : Mv l D (wE a cI cJ) a 25 cI cJ tk tf yX7_endStopped cX7_endStopped 1 { frames := 3, cells := 0, slots := 0, locals := 70 } [.ref (a 0)] S x := by
  refine opn_v (by decide +kernel) (Nat.le_of_ble_eq_true rfl) (fun p e s m below meth c C hr G ls hl => ?_)
  replace hl : lv_has ls 1 [(0, .ref (a 0))] := hl
  unfold fX7_endStopped_0 at hf
  refine lv_aload_n C.1 C.2.1 dX7_endStopped_0 rfl (lv_at hl 0 rfl) ?_
  refine gE_0_5 C G k_226 dX7_endStopped_1 ?_
  obtain ⟨r1, S1, eS1, hf⟩ := bnd_e hf
  refine r_calv (As := []) (na := 0) C adE G (mX0_takeTop_13 l D a cI cJ tk tf S _ eS1) k_340 k_341 k_342 k_66 k_343 (q0 := 13) rfl (ci := 0) rfl (by decide +kernel) ⟨Nat.le_of_ble_eq_true rfl, Nat.le_of_ble_eq_true rfl⟩ rfl rfl ⟨Nat.zero_le _, Nat.zero_le _⟩ rfl hl.1 rfl (Nat.le_of_ble_eq_true rfl) dX7_endStopped_4 (fun H locs G => ?_)
  refine lv_aload_n C.1 C.2.1 dX7_endStopped_7 rfl (lv_at hl 0 rfl) ?_
  refine gE_0_2 C G k_223 dX7_endStopped_8 ?_
  refine lv_iconst (v := 1) C.1 C.2.1 dX7_endStopped_11 (by decide) ?_
  refine lv_iconst (v := 0) C.1 C.2.1 dX7_endStopped_12 (by decide) ?_
  obtain ⟨r2, S2, eS2, hf⟩ := bnd_e hf
  refine r_cali (As := [.int (1 : Int32), .int (0 : Int32)]) (na := 2) C adE G (mX2_put_5 l D a cI cJ tk tf (1 : Int32) (0 : Int32) S1 _ eS2) k_288 k_289 k_290 k_62 k_291 (q0 := 5) rfl (ci := 2) rfl (by decide +kernel) ⟨Nat.le_of_ble_eq_true rfl, Nat.le_of_ble_eq_true rfl⟩ rfl rfl ⟨Nat.zero_le _, Nat.zero_le _⟩ rfl hl.1 rfl (Nat.le_of_ble_eq_true rfl) dX7_endStopped_13 (fun H locs G => ?_)
  refine lv_if_ne (tgt := 26) C.1 C.2.1 dX7_endStopped_16 (by decide) (fun c3 => ?_) (fun c3 => ?_)
  · replace hf := ifq c3 hf
    exact r_vret C hr G hf dX7_endStopped_26
  · replace hf := ifp c3 hf
    refine lv_aload_n C.1 C.2.1 dX7_endStopped_19 rfl (lv_at hl 0 rfl) ?_
    refine lv_iconst (v := 2) C.1 C.2.1 dX7_endStopped_20 (by decide) ?_
    refine lv_bipush (v := (-3)) C.1 C.2.1 dX7_endStopped_21 (by decide) ?_
    obtain ⟨r4, S4, eS4, hf⟩ := bnd_e hf
    refine r_calv (As := [.int (2 : Int32), .int (-3 : Int32)]) (na := 2) C adE G (mX7_arise_0 l D a cI cJ tk tf (2 : Int32) (-3 : Int32) S2 _ eS4) k_546 k_548 k_26 k_59 k_549 (q0 := 0) rfl (ci := 7) rfl (by decide +kernel) ⟨Nat.le_of_ble_eq_true rfl, Nat.le_of_ble_eq_true rfl⟩ rfl rfl ⟨Nat.zero_le _, Nat.zero_le _⟩ rfl hl.1 rfl (Nat.le_of_ble_eq_true rfl) dX7_endStopped_23 (fun H locs G => ?_)
    exact r_vret C hr G hf dX7_endStopped_26
set_option maxRecDepth 100000 in
set_option maxHeartbeats 4000000 in
theorem rX0_loopIsOver_13_72 {p : Program} {l : Launch} {e : Env} {s : State} {m : MethodId} {args : Array Value} {below : List Frame} {meth : Method} {c : Code} {D : va_G} {a : Nat → Nat} {cI cJ : ClassId} {tk : Nat} {tf : Nat → Int32} (C : Cx p s m args meth c RX0 cX0_loopIsOver 2 D cI cJ tk tf (AR a 25 s.heap.size)) (hr : meth.sig.returnType = (some .boolean)) : ∀ (S : St) (x : Int32 × St) (H : Heap) (locs : List Loc) (ls : Array Slot), fX0_loopIsOver_13_72 S = some x → Wd D (wE a cI cJ) (AR a 25 s.heap.size) s S H locs → lv_has ls 2 [] → W p l e { frames := 0, cells := 0, slots := 0, locals := 0 } s m args below meth c H locs 0 0 (MQ below (Qi D (wE a cI cJ) (AR a 25 s.heap.size) x) args s 0 0 (AR a 25 s.heap.size)) (F0 m 72 ls []) := by
  intro S x H locs ls hf G hl
  unfold fX0_loopIsOver_13_72 at hf
  refine lv_iconst (v := 0) C.1 C.2.1 dX0_loopIsOver_72 (by decide) ?_
  exact r_zret C hr (Or.inl rfl) G hf dX0_loopIsOver_73
set_option maxRecDepth 100000 in
set_option maxHeartbeats 4000000 in
theorem rX0_loopIsOver_13_68 {p : Program} {l : Launch} {e : Env} {s : State} {m : MethodId} {args : Array Value} {below : List Frame} {meth : Method} {c : Code} {D : va_G} {a : Nat → Nat} {cI cJ : ClassId} {tk : Nat} {tf : Nat → Int32} (C : Cx p s m args meth c RX0 cX0_loopIsOver 2 D cI cJ tk tf (AR a 25 s.heap.size)) (hr : meth.sig.returnType = (some .boolean)) : ∀ (S : St) (x : Int32 × St) (H : Heap) (locs : List Loc) (ls : Array Slot), fX0_loopIsOver_13_68 S = some x → Wd D (wE a cI cJ) (AR a 25 s.heap.size) s S H locs → lv_has ls 2 [] → W p l e { frames := 0, cells := 0, slots := 0, locals := 0 } s m args below meth c H locs 0 0 (MQ below (Qi D (wE a cI cJ) (AR a 25 s.heap.size) x) args s 0 0 (AR a 25 s.heap.size)) (F0 m 68 ls []) := by
  intro S x H locs ls hf G hl
  unfold fX0_loopIsOver_13_68 at hf
  refine lv_iconst (v := 1) C.1 C.2.1 dX0_loopIsOver_68 (by decide) ?_
  refine lv_goto (tgt := 73) C.1 C.2.1 dX0_loopIsOver_69 (by decide) ?_
  exact r_zret C hr (Or.inr rfl) G hf dX0_loopIsOver_73
set_option maxRecDepth 100000 in
set_option maxHeartbeats 4000000 in
theorem rX0_loopIsOver_13_42 {p : Program} {l : Launch} {e : Env} {s : State} {m : MethodId} {args : Array Value} {below : List Frame} {meth : Method} {c : Code} {D : va_G} {a : Nat → Nat} {cI cJ : ClassId} {tk : Nat} {tf : Nat → Int32} (C : Cx p s m args meth c RX0 cX0_loopIsOver 2 D cI cJ tk tf (AR a 25 s.heap.size)) (hr : meth.sig.returnType = (some .boolean)) : ∀ (q1 : Int32) (S : St) (x : Int32 × St) (H : Heap) (locs : List Loc) (ls : Array Slot), fX0_loopIsOver_13_42 q1 S = some x → Wd D (wE a cI cJ) (AR a 25 s.heap.size) s S H locs → lv_has ls 2 [(0, .ref (a 13)), (1, .int q1)] → W p l e { frames := 0, cells := 0, slots := 0, locals := 0 } s m args below meth c H locs 0 0 (MQ below (Qi D (wE a cI cJ) (AR a 25 s.heap.size) x) args s 0 0 (AR a 25 s.heap.size)) (F0 m 42 ls []) := by
  intro q1 S x H locs ls hf G hl
  unfold fX0_loopIsOver_13_42 at hf
  refine lv_aload_n C.1 C.2.1 dX0_loopIsOver_42 rfl (lv_at hl 0 rfl) ?_
  refine gE_13_4 C G k_172 dX0_loopIsOver_43 ?_
  refine lv_iload_n C.1 C.2.1 dX0_loopIsOver_46 rfl (lv_at hl 1 rfl) ?_
  obtain ⟨hi1, hf⟩ := ifn hf
  refine aE_18 C G hi1 dX0_loopIsOver_47 ?_
  refine lv_if_ge (tgt := 72) C.1 C.2.1 dX0_loopIsOver_48 (by decide) (fun c2 => ?_) (fun c2 => ?_)
  · replace hf := ifp c2 hf
    exact rX0_loopIsOver_13_72 C hr S _ _ _ _ hf G (lv_sub hl [] rfl)
  · replace hf := ifq c2 hf
    refine lv_aload_n C.1 C.2.1 dX0_loopIsOver_51 rfl (lv_at hl 0 rfl) ?_
    refine gE_13_3 C G k_171 dX0_loopIsOver_52 ?_
    refine lv_iload_n C.1 C.2.1 dX0_loopIsOver_55 rfl (lv_at hl 1 rfl) ?_
    obtain ⟨hi3, hf⟩ := ifn hf
    refine aE_17 C G hi3 dX0_loopIsOver_56 ?_
    refine lv_aload_n C.1 C.2.1 dX0_loopIsOver_57 rfl (lv_at hl 0 rfl) ?_
    refine gE_13_5 C G k_173 dX0_loopIsOver_58 ?_
    refine lv_iload_n C.1 C.2.1 dX0_loopIsOver_61 rfl (lv_at hl 1 rfl) ?_
    obtain ⟨hi4, hf⟩ := ifn hf
    refine aE_19 C G hi4 dX0_loopIsOver_62 ?_
    refine lv_i2l C.1 C.2.1 dX0_loopIsOver_63 rfl ?_
    refine W.lcmp C.1 C.2.1 dX0_loopIsOver_64 ?_
    refine lv_if_ge (tgt := 72) C.1 C.2.1 dX0_loopIsOver_65 (by decide) (fun c5 => ?_) (fun c5 => ?_)
    · replace hf := ifp c5 hf
      exact rX0_loopIsOver_13_72 C hr S _ _ _ _ hf G (lv_sub hl [] rfl)
    · replace hf := ifq c5 hf
      exact rX0_loopIsOver_13_68 C hr S _ _ _ _ hf G (lv_sub hl [] rfl)
set_option maxRecDepth 100000 in
set_option maxHeartbeats 4000000 in
theorem mX0_loopIsOver_13 (l : Launch) (D : va_G) (a : Nat → Nat) (cI cJ : ClassId) (tk : Nat) (tf : Nat → Int32) (S : St) (x : Int32 × St) (hf : fX0_loopIsOver_13 S = some x) : Mi l D (wE a cI cJ) a 25 cI cJ tk tf yX0_loopIsOver cX0_loopIsOver 2 (some .boolean) { frames := 0, cells := 0, slots := 0, locals := 0 } [.ref (a 13)] S x := by
  refine opn_i (by decide +kernel) (Nat.le_of_ble_eq_true rfl) (fun p e s m below meth c C hr G ls hl => ?_)
  replace hl : lv_has ls 2 [(0, .ref (a 13))] := hl
  unfold fX0_loopIsOver_13 at hf
  refine lv_aload_n C.1 C.2.1 dX0_loopIsOver_0 rfl (lv_at hl 0 rfl) ?_
  refine gE_13_6 C G k_174 dX0_loopIsOver_1 ?_
  refine lv_if_ne (tgt := 9) C.1 C.2.1 dX0_loopIsOver_4 (by decide) (fun c1 => ?_) (fun c1 => ?_)
  · replace hf := ifq c1 hf
    refine lv_aload_n C.1 C.2.1 dX0_loopIsOver_9 rfl (lv_at hl 0 rfl) ?_
    refine gE_13_6 C G k_174 dX0_loopIsOver_10 ?_
    refine lv_iconst (v := 1) C.1 C.2.1 dX0_loopIsOver_13 (by decide) ?_
    refine lv_isub C.1 C.2.1 dX0_loopIsOver_14 ?_
    obtain ⟨y2, ey2, hf⟩ := stv_e hf
    refine nm_i ey2 ?_
    refine lv_istore_n (lv' := [(1, .int y2), (0, .ref (a 13))]) C.1 C.2.1 dX0_loopIsOver_15 rfl hl (by decide) rfl (fun ls hl => ?_)
    refine lv_aload_n C.1 C.2.1 dX0_loopIsOver_16 rfl (lv_at hl 1 rfl) ?_
    refine gE_13_4 C G k_172 dX0_loopIsOver_17 ?_
    refine lv_iload_n C.1 C.2.1 dX0_loopIsOver_20 rfl (lv_at hl 0 rfl) ?_
    obtain ⟨hi3, hf⟩ := ifn hf
    refine aE_18 C G hi3 dX0_loopIsOver_21 ?_
    refine lv_if_le (tgt := 42) C.1 C.2.1 dX0_loopIsOver_22 (by decide) (fun c4 => ?_) (fun c4 => ?_)
    · replace hf := ifp c4 hf
      exact rX0_loopIsOver_13_42 C hr y2 S _ _ _ _ hf G (lv_sub hl [1, 0] rfl)
    · replace hf := ifq c4 hf
      refine lv_aload_n C.1 C.2.1 dX0_loopIsOver_25 rfl (lv_at hl 1 rfl) ?_
      refine gE_13_3 C G k_171 dX0_loopIsOver_26 ?_
      refine lv_iload_n C.1 C.2.1 dX0_loopIsOver_29 rfl (lv_at hl 0 rfl) ?_
      obtain ⟨hi5, hf⟩ := ifn hf
      refine aE_17 C G hi5 dX0_loopIsOver_30 ?_
      refine lv_aload_n C.1 C.2.1 dX0_loopIsOver_31 rfl (lv_at hl 1 rfl) ?_
      refine gE_13_5 C G k_173 dX0_loopIsOver_32 ?_
      refine lv_iload_n C.1 C.2.1 dX0_loopIsOver_35 rfl (lv_at hl 0 rfl) ?_
      obtain ⟨hi6, hf⟩ := ifn hf
      refine aE_19 C G hi6 dX0_loopIsOver_36 ?_
      refine lv_i2l C.1 C.2.1 dX0_loopIsOver_37 rfl ?_
      refine W.lcmp C.1 C.2.1 dX0_loopIsOver_38 ?_
      refine lv_if_gt (tgt := 68) C.1 C.2.1 dX0_loopIsOver_39 (by decide) (fun c7 => ?_) (fun c7 => ?_)
      · replace hf := ifp c7 hf
        exact rX0_loopIsOver_13_68 C hr S _ _ _ _ hf G (lv_sub hl [] rfl)
      · replace hf := ifq c7 hf
        exact rX0_loopIsOver_13_42 C hr y2 S _ _ _ _ hf G (lv_sub hl [1, 0] rfl)
  · replace hf := ifp c1 hf
    refine lv_iconst (v := 1) C.1 C.2.1 dX0_loopIsOver_7 (by decide) ?_
    exact r_zret C hr (Or.inr rfl) G hf dX0_loopIsOver_8
set_option maxRecDepth 100000 in
set_option maxHeartbeats 4000000 in
theorem mX0_loopNumber_13 (l : Launch) (D : va_G) (a : Nat → Nat) (cI cJ : ClassId) (tk : Nat) (tf : Nat → Int32) (S : St) (x : Int32 × St) (hf : fX0_loopNumber_13 S = some x) : Mi l D (wE a cI cJ) a 25 cI cJ tk tf yX0_loopNumber cX0_loopNumber 1 (some .int) { frames := 0, cells := 0, slots := 0, locals := 0 } [.ref (a 13)] S x := by
  refine opn_i (by decide +kernel) (Nat.le_of_ble_eq_true rfl) (fun p e s m below meth c C hr G ls hl => ?_)
  replace hl : lv_has ls 1 [(0, .ref (a 13))] := hl
  unfold fX0_loopNumber_13 at hf
  refine lv_aload_n C.1 C.2.1 dX0_loopNumber_0 rfl (lv_at hl 0 rfl) ?_
  refine gE_13_6 C G k_174 dX0_loopNumber_1 ?_
  refine lv_if_le (tgt := 22) C.1 C.2.1 dX0_loopNumber_4 (by decide) (fun c1 => ?_) (fun c1 => ?_)
  · replace hf := ifp c1 hf
    refine lv_iconst (v := 0) C.1 C.2.1 dX0_loopNumber_22 (by decide) ?_
    exact r_iret C hr G hf dX0_loopNumber_23
  · replace hf := ifq c1 hf
    refine lv_aload_n C.1 C.2.1 dX0_loopNumber_7 rfl (lv_at hl 0 rfl) ?_
    refine gE_13_3 C G k_171 dX0_loopNumber_8 ?_
    refine lv_aload_n C.1 C.2.1 dX0_loopNumber_11 rfl (lv_at hl 0 rfl) ?_
    refine gE_13_6 C G k_174 dX0_loopNumber_12 ?_
    refine lv_iconst (v := 1) C.1 C.2.1 dX0_loopNumber_15 (by decide) ?_
    refine lv_isub C.1 C.2.1 dX0_loopNumber_16 ?_
    obtain ⟨hi2, hf⟩ := ifn hf
    refine aE_17 C G hi2 dX0_loopNumber_17 ?_
    refine lv_l2i C.1 C.2.1 dX0_loopNumber_18 rfl ?_
    refine lv_goto (tgt := 23) C.1 C.2.1 dX0_loopNumber_19 (by decide) ?_
    exact r_iret C hr G hf dX0_loopNumber_23
set_option maxRecDepth 100000 in
set_option maxHeartbeats 4000000 in
theorem mX0_turnLoop_13 (l : Launch) (D : va_G) (a : Nat → Nat) (cI cJ : ClassId) (tk : Nat) (tf : Nat → Int32) (S : St) (x : Int32 × St) (hf : fX0_turnLoop_13 S = some x) : Mv l D (wE a cI cJ) a 25 cI cJ tk tf yX0_turnLoop cX0_turnLoop 1 { frames := 0, cells := 0, slots := 0, locals := 0 } [.ref (a 13)] S x := by
  refine opn_v (by decide +kernel) (Nat.le_of_ble_eq_true rfl) (fun p e s m below meth c C hr G ls hl => ?_)
  replace hl : lv_has ls 1 [(0, .ref (a 13))] := hl
  unfold fX0_turnLoop_13 at hf
  refine lv_aload_n C.1 C.2.1 dX0_turnLoop_0 rfl (lv_at hl 0 rfl) ?_
  refine gE_13_6 C G k_174 dX0_turnLoop_1 ?_
  refine lv_if_le (tgt := 33) C.1 C.2.1 dX0_turnLoop_4 (by decide) (fun c1 => ?_) (fun c1 => ?_)
  · replace hf := ifp c1 hf
    exact r_vret C hr G hf dX0_turnLoop_33
  · replace hf := ifq c1 hf
    refine lv_aload_n C.1 C.2.1 dX0_turnLoop_7 rfl (lv_at hl 0 rfl) ?_
    refine gE_13_3 C G k_171 dX0_turnLoop_8 ?_
    refine lv_aload_n C.1 C.2.1 dX0_turnLoop_11 rfl (lv_at hl 0 rfl) ?_
    refine gE_13_6 C G k_174 dX0_turnLoop_12 ?_
    refine lv_iconst (v := 1) C.1 C.2.1 dX0_turnLoop_15 (by decide) ?_
    refine lv_isub C.1 C.2.1 dX0_turnLoop_16 ?_
    refine lv_dup2_11 C.1 C.2.1 dX0_turnLoop_17 rfl rfl ?_
    obtain ⟨hi2, hf⟩ := ifn hf
    refine aE_17 C G hi2 dX0_turnLoop_18 ?_
    refine lv_aload_n C.1 C.2.1 dX0_turnLoop_19 rfl (lv_at hl 0 rfl) ?_
    refine gE_13_4 C G k_172 dX0_turnLoop_20 ?_
    refine lv_aload_n C.1 C.2.1 dX0_turnLoop_23 rfl (lv_at hl 0 rfl) ?_
    refine gE_13_6 C G k_174 dX0_turnLoop_24 ?_
    refine lv_iconst (v := 1) C.1 C.2.1 dX0_turnLoop_27 (by decide) ?_
    refine lv_isub C.1 C.2.1 dX0_turnLoop_28 ?_
    obtain ⟨hi3, hf⟩ := ifn hf
    refine aE_18 C G hi3 dX0_turnLoop_29 ?_
    refine lv_i2l C.1 C.2.1 dX0_turnLoop_30 rfl ?_
    refine lv_ladd C.1 C.2.1 dX0_turnLoop_31 ?_
    obtain ⟨hi4, hf⟩ := ifn hf
    refine sE_17 C G hi4 dX0_turnLoop_32 (fun H locs G => ?_)
    obtain ⟨S4, eS4, hf⟩ := stp_e hf
    rw [← eS4] at G
    clear eS4
    exact r_vret C hr G hf dX0_turnLoop_33
set_option maxRecDepth 100000 in
set_option maxHeartbeats 4000000 in
theorem mX0_topSubject_13 (l : Launch) (D : va_G) (a : Nat → Nat) (cI cJ : ClassId) (tk : Nat) (tf : Nat → Int32) (S : St) (x : Int32 × St) (hf : fX0_topSubject_13 S = some x) : Mi l D (wE a cI cJ) a 25 cI cJ tk tf yX0_topSubject cX0_topSubject 1 (some .int) { frames := 0, cells := 0, slots := 0, locals := 0 } [.ref (a 13)] S x := by
  refine opn_i (by decide +kernel) (Nat.le_of_ble_eq_true rfl) (fun p e s m below meth c C hr G ls hl => ?_)
  replace hl : lv_has ls 1 [(0, .ref (a 13))] := hl
  unfold fX0_topSubject_13 at hf
  refine lv_aload_n C.1 C.2.1 dX0_topSubject_0 rfl (lv_at hl 0 rfl) ?_
  refine gE_13_6 C G k_174 dX0_topSubject_1 ?_
  refine lv_if_le (tgt := 21) C.1 C.2.1 dX0_topSubject_4 (by decide) (fun c1 => ?_) (fun c1 => ?_)
  · replace hf := ifp c1 hf
    refine lv_iconst (v := (-1)) C.1 C.2.1 dX0_topSubject_21 (by decide) ?_
    exact r_iret C hr G hf dX0_topSubject_22
  · replace hf := ifq c1 hf
    refine lv_aload_n C.1 C.2.1 dX0_topSubject_7 rfl (lv_at hl 0 rfl) ?_
    refine gE_13_1 C G k_169 dX0_topSubject_8 ?_
    refine lv_aload_n C.1 C.2.1 dX0_topSubject_11 rfl (lv_at hl 0 rfl) ?_
    refine gE_13_6 C G k_174 dX0_topSubject_12 ?_
    refine lv_iconst (v := 1) C.1 C.2.1 dX0_topSubject_15 (by decide) ?_
    refine lv_isub C.1 C.2.1 dX0_topSubject_16 ?_
    obtain ⟨hi2, hf⟩ := ifn hf
    refine aE_15 C G hi2 dX0_topSubject_17 ?_
    refine lv_goto (tgt := 22) C.1 C.2.1 dX0_topSubject_18 (by decide) ?_
    exact r_iret C hr G hf dX0_topSubject_22
