theorem dX6_wipe_0 : decode cX6_wipe 0 = .ok (.iconst 0, 1) := by decide +kernel
theorem dX6_wipe_1 : decode cX6_wipe 1 = .ok (.istore_n 1, 1) := by decide +kernel
theorem dX6_wipe_2 : decode cX6_wipe 2 = .ok (.iconst 0, 1) := by decide +kernel
theorem dX6_wipe_3 : decode cX6_wipe 3 = .ok (.istore_n 2, 1) := by decide +kernel
theorem dX6_wipe_4 : decode cX6_wipe 4 = .ok (.iload_n 2, 1) := by decide +kernel
theorem dX6_wipe_5 : decode cX6_wipe 5 = .ok (.bipush 40, 2) := by decide +kernel
theorem dX6_wipe_7 : decode cX6_wipe 7 = .ok (.if_icmp .ge 36, 3) := by decide +kernel
theorem dX6_wipe_10 : decode cX6_wipe 10 = .ok (.aload_n 0, 1) := by decide +kernel
theorem dX6_wipe_11 : decode cX6_wipe 11 = .ok (.getfield 9, 3) := by decide +kernel
theorem dX6_wipe_14 : decode cX6_wipe 14 = .ok (.iload_n 2, 1) := by decide +kernel
theorem dX6_wipe_15 : decode cX6_wipe 15 = .ok (.iaload, 1) := by decide +kernel
theorem dX6_wipe_16 : decode cX6_wipe 16 = .ok (.iconst (-1), 1) := by decide +kernel
theorem dX6_wipe_17 : decode cX6_wipe 17 = .ok (.if_icmp .eq 6, 3) := by decide +kernel
theorem dX6_wipe_20 : decode cX6_wipe 20 = .ok (.iinc 1 1, 3) := by decide +kernel
theorem dX6_wipe_23 : decode cX6_wipe 23 = .ok (.aload_n 0, 1) := by decide +kernel
theorem dX6_wipe_24 : decode cX6_wipe 24 = .ok (.getfield 9, 3) := by decide +kernel
theorem dX6_wipe_27 : decode cX6_wipe 27 = .ok (.iload_n 2, 1) := by decide +kernel
theorem dX6_wipe_28 : decode cX6_wipe 28 = .ok (.iconst (-1), 1) := by decide +kernel
theorem dX6_wipe_29 : decode cX6_wipe 29 = .ok (.iastore, 1) := by decide +kernel
theorem dX6_wipe_30 : decode cX6_wipe 30 = .ok (.aload_n 0, 1) := by decide +kernel
theorem dX6_wipe_31 : decode cX6_wipe 31 = .ok (.getfield 15, 3) := by decide +kernel
theorem dX6_wipe_34 : decode cX6_wipe 34 = .ok (.iload_n 2, 1) := by decide +kernel
theorem dX6_wipe_35 : decode cX6_wipe 35 = .ok (.iconst 0, 1) := by decide +kernel
theorem dX6_wipe_36 : decode cX6_wipe 36 = .ok (.iastore, 1) := by decide +kernel
theorem dX6_wipe_37 : decode cX6_wipe 37 = .ok (.iinc 2 1, 3) := by decide +kernel
theorem dX6_wipe_40 : decode cX6_wipe 40 = .ok (.goto (-36), 3) := by decide +kernel
theorem dX6_wipe_43 : decode cX6_wipe 43 = .ok (.iload_n 1, 1) := by decide +kernel
theorem dX6_wipe_44 : decode cX6_wipe 44 = .ok (.ireturn, 1) := by decide +kernel
theorem dX7_forget_0 : decode cX7_forget 0 = .ok (.aload_n 0, 1) := by decide +kernel
theorem dX7_forget_1 : decode cX7_forget 1 = .ok (.getfield 40, 3) := by decide +kernel
theorem dX7_forget_4 : decode cX7_forget 4 = .ok (.invokevirtual 160, 3) := by decide +kernel
theorem dX7_forget_7 : decode cX7_forget 7 = .ok (.aload_n 0, 1) := by decide +kernel
theorem dX7_forget_8 : decode cX7_forget 8 = .ok (.getfield 54, 3) := by decide +kernel
theorem dX7_forget_11 : decode cX7_forget 11 = .ok (.invokevirtual 162, 3) := by decide +kernel
theorem dX7_forget_14 : decode cX7_forget 14 = .ok (.aload_n 0, 1) := by decide +kernel
theorem dX7_forget_15 : decode cX7_forget 15 = .ok (.iconst 0, 1) := by decide +kernel
theorem dX7_forget_16 : decode cX7_forget 16 = .ok (.putfield 110, 3) := by decide +kernel
theorem dX7_forget_19 : decode cX7_forget 19 = .ok (.aload_n 0, 1) := by decide +kernel
theorem dX7_forget_20 : decode cX7_forget 20 = .ok (.getfield 34, 3) := by decide +kernel
theorem dX7_forget_23 : decode cX7_forget 23 = .ok (.invokevirtual 163, 3) := by decide +kernel
theorem dX7_forget_26 : decode cX7_forget 26 = .ok (.ireturn, 1) := by decide +kernel
theorem dX2_has_0 : decode cX2_has 0 = .ok (.iload_n 1, 1) := by decide +kernel
theorem dX2_has_1 : decode cX2_has 1 = .ok (.ifCond .lt 15, 3) := by decide +kernel
theorem dX2_has_4 : decode cX2_has 4 = .ok (.iload_n 1, 1) := by decide +kernel
theorem dX2_has_5 : decode cX2_has 5 = .ok (.aload_n 0, 1) := by decide +kernel
theorem dX2_has_6 : decode cX2_has 6 = .ok (.getfield 18, 3) := by decide +kernel
theorem dX2_has_9 : decode cX2_has 9 = .ok (.if_icmp .ge 7, 3) := by decide +kernel
theorem dX2_has_12 : decode cX2_has 12 = .ok (.iconst 1, 1) := by decide +kernel
theorem dX2_has_13 : decode cX2_has 13 = .ok (.goto 4, 3) := by decide +kernel
theorem dX2_has_16 : decode cX2_has 16 = .ok (.iconst 0, 1) := by decide +kernel
theorem dX2_has_17 : decode cX2_has 17 = .ok (.ireturn, 1) := by decide +kernel
theorem dX7_isKindOrNumber_0 : decode cX7_isKindOrNumber 0 = .ok (.iload_n 0, 1) := by decide +kernel
theorem dX7_isKindOrNumber_1 : decode cX7_isKindOrNumber 1 = .ok (.ifCond .eq 8, 3) := by decide +kernel
theorem dX7_isKindOrNumber_4 : decode cX7_isKindOrNumber 4 = .ok (.iload_n 0, 1) := by decide +kernel
theorem dX7_isKindOrNumber_5 : decode cX7_isKindOrNumber 5 = .ok (.iconst 1, 1) := by decide +kernel
theorem dX7_isKindOrNumber_6 : decode cX7_isKindOrNumber 6 = .ok (.if_icmp .ne 7, 3) := by decide +kernel
theorem dX7_isKindOrNumber_9 : decode cX7_isKindOrNumber 9 = .ok (.iconst 1, 1) := by decide +kernel
theorem dX7_isKindOrNumber_10 : decode cX7_isKindOrNumber 10 = .ok (.goto 4, 3) := by decide +kernel
theorem dX7_isKindOrNumber_13 : decode cX7_isKindOrNumber 13 = .ok (.iconst 0, 1) := by decide +kernel
theorem dX7_isKindOrNumber_14 : decode cX7_isKindOrNumber 14 = .ok (.ireturn, 1) := by decide +kernel
theorem dX2_kindAt_0 : decode cX2_kindAt 0 = .ok (.iload_n 1, 1) := by decide +kernel
theorem dX2_kindAt_1 : decode cX2_kindAt 1 = .ok (.ifCond .lt 20, 3) := by decide +kernel
theorem dX2_kindAt_4 : decode cX2_kindAt 4 = .ok (.iload_n 1, 1) := by decide +kernel
theorem dX2_kindAt_5 : decode cX2_kindAt 5 = .ok (.aload_n 0, 1) := by decide +kernel
theorem dX2_kindAt_6 : decode cX2_kindAt 6 = .ok (.getfield 18, 3) := by decide +kernel
theorem dX2_kindAt_9 : decode cX2_kindAt 9 = .ok (.if_icmp .ge 12, 3) := by decide +kernel
theorem dX2_kindAt_12 : decode cX2_kindAt 12 = .ok (.aload_n 0, 1) := by decide +kernel
theorem dX2_kindAt_13 : decode cX2_kindAt 13 = .ok (.getfield 9, 3) := by decide +kernel
theorem dX2_kindAt_16 : decode cX2_kindAt 16 = .ok (.iload_n 1, 1) := by decide +kernel
theorem dX2_kindAt_17 : decode cX2_kindAt 17 = .ok (.iaload, 1) := by decide +kernel
theorem dX2_kindAt_18 : decode cX2_kindAt 18 = .ok (.goto 4, 3) := by decide +kernel
theorem dX2_kindAt_21 : decode cX2_kindAt 21 = .ok (.iconst (-1), 1) := by decide +kernel
theorem dX2_kindAt_22 : decode cX2_kindAt 22 = .ok (.ireturn, 1) := by decide +kernel
theorem dX2_numberAt_0 : decode cX2_numberAt 0 = .ok (.iload_n 1, 1) := by decide +kernel
theorem dX2_numberAt_1 : decode cX2_numberAt 1 = .ok (.ifCond .lt 20, 3) := by decide +kernel
theorem dX2_numberAt_4 : decode cX2_numberAt 4 = .ok (.iload_n 1, 1) := by decide +kernel
theorem dX2_numberAt_5 : decode cX2_numberAt 5 = .ok (.aload_n 0, 1) := by decide +kernel
theorem dX2_numberAt_6 : decode cX2_numberAt 6 = .ok (.getfield 18, 3) := by decide +kernel
theorem dX2_numberAt_9 : decode cX2_numberAt 9 = .ok (.if_icmp .ge 12, 3) := by decide +kernel
theorem dX2_numberAt_12 : decode cX2_numberAt 12 = .ok (.aload_n 0, 1) := by decide +kernel
theorem dX2_numberAt_13 : decode cX2_numberAt 13 = .ok (.getfield 15, 3) := by decide +kernel
theorem dX2_numberAt_16 : decode cX2_numberAt 16 = .ok (.iload_n 1, 1) := by decide +kernel
theorem dX2_numberAt_17 : decode cX2_numberAt 17 = .ok (.iaload, 1) := by decide +kernel
theorem dX2_numberAt_18 : decode cX2_numberAt 18 = .ok (.goto 4, 3) := by decide +kernel
theorem dX2_numberAt_21 : decode cX2_numberAt 21 = .ok (.iconst 0, 1) := by decide +kernel
theorem dX2_numberAt_22 : decode cX2_numberAt 22 = .ok (.ireturn, 1) := by decide +kernel
theorem dX7_value_0 : decode cX7_value 0 = .ok (.aload_n 0, 1) := by decide +kernel
theorem dX7_value_1 : decode cX7_value 1 = .ok (.getfield 27, 3) := by decide +kernel
theorem dX7_value_4 : decode cX7_value 4 = .ok (.iload_n 1, 1) := by decide +kernel
theorem dX7_value_5 : decode cX7_value 5 = .ok (.invokevirtual 114, 3) := by decide +kernel
theorem dX7_value_8 : decode cX7_value 8 = .ok (.ifCond .eq 10, 3) := by decide +kernel
theorem dX7_value_11 : decode cX7_value 11 = .ok (.iload_n 2, 1) := by decide +kernel
theorem dX7_value_12 : decode cX7_value 12 = .ok (.invokestatic 115, 3) := by decide +kernel
theorem dX7_value_15 : decode cX7_value 15 = .ok (.ifCond .ne 13, 3) := by decide +kernel
theorem dX7_value_18 : decode cX7_value 18 = .ok (.new 118, 3) := by decide +kernel
theorem dX7_value_21 : decode cX7_value 21 = .ok (.dup, 1) := by decide +kernel
theorem dX7_value_22 : decode cX7_value 22 = .ok (.ldc 120, 2) := by decide +kernel
theorem dX7_value_24 : decode cX7_value 24 = .ok (.invokespecial 122, 3) := by decide +kernel
theorem dX7_value_27 : decode cX7_value 27 = .ok (.athrow, 1) := by decide +kernel
theorem dX7_value_28 : decode cX7_value 28 = .ok (.iload_n 2, 1) := by decide +kernel
theorem dX7_value_29 : decode cX7_value 29 = .ok (.ifCond .ne 14, 3) := by decide +kernel
theorem dX7_value_32 : decode cX7_value 32 = .ok (.aload_n 0, 1) := by decide +kernel
theorem dX7_value_33 : decode cX7_value 33 = .ok (.getfield 27, 3) := by decide +kernel
theorem dX7_value_36 : decode cX7_value 36 = .ok (.iload_n 1, 1) := by decide +kernel
theorem dX7_value_37 : decode cX7_value 37 = .ok (.invokevirtual 125, 3) := by decide +kernel
theorem dX7_value_40 : decode cX7_value 40 = .ok (.goto 11, 3) := by decide +kernel
theorem dX7_value_43 : decode cX7_value 43 = .ok (.aload_n 0, 1) := by decide +kernel
theorem dX7_value_44 : decode cX7_value 44 = .ok (.getfield 27, 3) := by decide +kernel
theorem dX7_value_47 : decode cX7_value 47 = .ok (.iload_n 1, 1) := by decide +kernel
theorem dX7_value_48 : decode cX7_value 48 = .ok (.invokevirtual 128, 3) := by decide +kernel
theorem dX7_value_51 : decode cX7_value 51 = .ok (.ireturn, 1) := by decide +kernel
theorem dX0_most_0 : decode cX0_most 0 = .ok (.aload_n 0, 1) := by decide +kernel
theorem dX0_most_1 : decode cX0_most 1 = .ok (.getfield 35, 3) := by decide +kernel
theorem dX0_most_4 : decode cX0_most 4 = .ok (.ireturn, 1) := by decide +kernel
theorem dX7_record_0 : decode cX7_record 0 = .ok (.aload_n 0, 1) := by decide +kernel
theorem dX7_record_1 : decode cX7_record 1 = .ok (.getfield 54, 3) := by decide +kernel
theorem dX7_record_4 : decode cX7_record 4 = .ok (.iload_n 1, 1) := by decide +kernel
theorem dX7_record_5 : decode cX7_record 5 = .ok (.invokevirtual 131, 3) := by decide +kernel
theorem dX7_record_8 : decode cX7_record 8 = .ok (.ifCond .eq 12, 3) := by decide +kernel
theorem dX7_record_11 : decode cX7_record 11 = .ok (.aload_n 0, 1) := by decide +kernel
theorem dX7_record_12 : decode cX7_record 12 = .ok (.getfield 54, 3) := by decide +kernel
theorem dX7_record_15 : decode cX7_record 15 = .ok (.iload_n 1, 1) := by decide +kernel
theorem dX7_record_16 : decode cX7_record 16 = .ok (.invokevirtual 132, 3) := by decide +kernel
theorem dX7_record_19 : decode cX7_record 19 = .ok (.ireturn, 1) := by decide +kernel
theorem dX7_record_20 : decode cX7_record 20 = .ok (.iload_n 1, 1) := by decide +kernel
theorem dX7_record_21 : decode cX7_record 21 = .ok (.tableswitch 45 6 8 #[27, 32, 40], 27) := by decide +kernel
theorem dX7_record_48 : decode cX7_record 48 = .ok (.aload_n 0, 1) := by decide +kernel
theorem dX7_record_49 : decode cX7_record 49 = .ok (.getfield 104, 3) := by decide +kernel
theorem dX7_record_52 : decode cX7_record 52 = .ok (.ireturn, 1) := by decide +kernel
theorem dX7_record_53 : decode cX7_record 53 = .ok (.aload_n 0, 1) := by decide +kernel
theorem dX7_record_54 : decode cX7_record 54 = .ok (.getfield 47, 3) := by decide +kernel
theorem dX7_record_57 : decode cX7_record 57 = .ok (.invokevirtual 135, 3) := by decide +kernel
theorem dX7_record_60 : decode cX7_record 60 = .ok (.ireturn, 1) := by decide +kernel
theorem dX7_record_61 : decode cX7_record 61 = .ok (.aload_n 0, 1) := by decide +kernel
theorem dX7_record_62 : decode cX7_record 62 = .ok (.getfield 97, 3) := by decide +kernel
theorem dX7_record_65 : decode cX7_record 65 = .ok (.ireturn, 1) := by decide +kernel
theorem dX7_record_66 : decode cX7_record 66 = .ok (.new 118, 3) := by decide +kernel
theorem dX7_record_69 : decode cX7_record 69 = .ok (.dup, 1) := by decide +kernel
theorem dX7_record_70 : decode cX7_record 70 = .ok (.ldc 138, 2) := by decide +kernel
theorem dX7_record_72 : decode cX7_record 72 = .ok (.invokespecial 122, 3) := by decide +kernel
theorem dX7_record_75 : decode cX7_record 75 = .ok (.athrow, 1) := by decide +kernel
theorem dX5_pile_0 : decode cX5_pile 0 = .ok (.aload_n 0, 1) := by decide +kernel
theorem dX5_pile_1 : decode cX5_pile 1 = .ok (.getfield 12, 3) := by decide +kernel
theorem dX5_pile_4 : decode cX5_pile 4 = .ok (.areturn, 1) := by decide +kernel
theorem dX7_kept_0 : decode cX7_kept 0 = .ok (.aload_n 0, 1) := by decide +kernel
theorem dX7_kept_1 : decode cX7_kept 1 = .ok (.getfield 54, 3) := by decide +kernel
theorem dX7_kept_4 : decode cX7_kept 4 = .ok (.invokevirtual 140, 3) := by decide +kernel
theorem dX7_kept_7 : decode cX7_kept 7 = .ok (.iload_n 1, 1) := by decide +kernel
theorem dX7_kept_8 : decode cX7_kept 8 = .ok (.invokevirtual 114, 3) := by decide +kernel
theorem dX7_kept_11 : decode cX7_kept 11 = .ok (.ifCond .eq 10, 3) := by decide +kernel
theorem dX7_kept_14 : decode cX7_kept 14 = .ok (.iload_n 2, 1) := by decide +kernel
theorem dX7_kept_15 : decode cX7_kept 15 = .ok (.invokestatic 115, 3) := by decide +kernel
theorem dX7_kept_18 : decode cX7_kept 18 = .ok (.ifCond .ne 13, 3) := by decide +kernel
theorem dX7_kept_21 : decode cX7_kept 21 = .ok (.new 118, 3) := by decide +kernel
theorem dX7_kept_24 : decode cX7_kept 24 = .ok (.dup, 1) := by decide +kernel
theorem dX7_kept_25 : decode cX7_kept 25 = .ok (.ldc 141, 2) := by decide +kernel
theorem dX7_kept_27 : decode cX7_kept 27 = .ok (.invokespecial 122, 3) := by decide +kernel
theorem dX7_kept_30 : decode cX7_kept 30 = .ok (.athrow, 1) := by decide +kernel
theorem dX7_kept_31 : decode cX7_kept 31 = .ok (.iload_n 2, 1) := by decide +kernel
theorem dX7_kept_32 : decode cX7_kept 32 = .ok (.ifCond .ne 17, 3) := by decide +kernel
theorem dX7_kept_35 : decode cX7_kept 35 = .ok (.aload_n 0, 1) := by decide +kernel
theorem dX7_kept_36 : decode cX7_kept 36 = .ok (.getfield 54, 3) := by decide +kernel
theorem dX7_kept_39 : decode cX7_kept 39 = .ok (.invokevirtual 140, 3) := by decide +kernel
theorem dX7_kept_42 : decode cX7_kept 42 = .ok (.iload_n 1, 1) := by decide +kernel
theorem dX7_kept_43 : decode cX7_kept 43 = .ok (.invokevirtual 125, 3) := by decide +kernel
theorem dX7_kept_46 : decode cX7_kept 46 = .ok (.goto 14, 3) := by decide +kernel
theorem dX7_kept_49 : decode cX7_kept 49 = .ok (.aload_n 0, 1) := by decide +kernel
theorem dX7_kept_50 : decode cX7_kept 50 = .ok (.getfield 54, 3) := by decide +kernel
theorem dX7_kept_53 : decode cX7_kept 53 = .ok (.invokevirtual 140, 3) := by decide +kernel
theorem dX7_kept_56 : decode cX7_kept 56 = .ok (.iload_n 1, 1) := by decide +kernel
theorem dX7_kept_57 : decode cX7_kept 57 = .ok (.invokevirtual 128, 3) := by decide +kernel
theorem dX7_kept_60 : decode cX7_kept 60 = .ok (.ireturn, 1) := by decide +kernel
theorem dX1_has_0 : decode cX1_has 0 = .ok (.iload_n 1, 1) := by decide +kernel
theorem dX1_has_1 : decode cX1_has 1 = .ok (.iconst 1, 1) := by decide +kernel
theorem dX1_has_2 : decode cX1_has 2 = .ok (.if_icmp .lt 13, 3) := by decide +kernel
theorem dX1_has_5 : decode cX1_has 5 = .ok (.iload_n 1, 1) := by decide +kernel
theorem dX1_has_6 : decode cX1_has 6 = .ok (.bipush 11, 2) := by decide +kernel
theorem dX1_has_8 : decode cX1_has 8 = .ok (.if_icmp .gt 7, 3) := by decide +kernel
theorem dX1_has_11 : decode cX1_has 11 = .ok (.iconst 1, 1) := by decide +kernel
theorem dX1_has_12 : decode cX1_has 12 = .ok (.goto 4, 3) := by decide +kernel
theorem dX1_has_15 : decode cX1_has 15 = .ok (.iconst 0, 1) := by decide +kernel
theorem dX1_has_16 : decode cX1_has 16 = .ok (.ireturn, 1) := by decide +kernel
theorem dX7_handler_0 : decode cX7_handler 0 = .ok (.aload_n 0, 1) := by decide +kernel
theorem dX7_handler_1 : decode cX7_handler 1 = .ok (.getfield 40, 3) := by decide +kernel
theorem dX7_handler_4 : decode cX7_handler 4 = .ok (.iload_n 1, 1) := by decide +kernel
theorem dX7_handler_5 : decode cX7_handler 5 = .ok (.invokevirtual 143, 3) := by decide +kernel
theorem dX7_handler_8 : decode cX7_handler 8 = .ok (.ifCond .ne 13, 3) := by decide +kernel
theorem dX7_handler_11 : decode cX7_handler 11 = .ok (.new 118, 3) := by decide +kernel
theorem dX7_handler_14 : decode cX7_handler 14 = .ok (.dup, 1) := by decide +kernel
theorem dX7_handler_15 : decode cX7_handler 15 = .ok (.ldc 144, 2) := by decide +kernel
theorem dX7_handler_17 : decode cX7_handler 17 = .ok (.invokespecial 122, 3) := by decide +kernel
theorem dX7_handler_20 : decode cX7_handler 20 = .ok (.athrow, 1) := by decide +kernel
theorem dX7_handler_21 : decode cX7_handler 21 = .ok (.aload_n 0, 1) := by decide +kernel
theorem dX7_handler_22 : decode cX7_handler 22 = .ok (.getfield 40, 3) := by decide +kernel
theorem dX7_handler_25 : decode cX7_handler 25 = .ok (.iload_n 1, 1) := by decide +kernel
theorem dX7_handler_26 : decode cX7_handler 26 = .ok (.invokevirtual 146, 3) := by decide +kernel
theorem dX7_handler_29 : decode cX7_handler 29 = .ok (.ireturn, 1) := by decide +kernel
theorem dX6_has_0 : decode cX6_has 0 = .ok (.iload_n 1, 1) := by decide +kernel
theorem dX6_has_1 : decode cX6_has 1 = .ok (.ifCond .lt 13, 3) := by decide +kernel
theorem dX6_has_4 : decode cX6_has 4 = .ok (.iload_n 1, 1) := by decide +kernel
theorem dX6_has_5 : decode cX6_has 5 = .ok (.bipush 40, 2) := by decide +kernel
theorem dX6_has_7 : decode cX6_has 7 = .ok (.if_icmp .ge 7, 3) := by decide +kernel
theorem dX6_has_10 : decode cX6_has 10 = .ok (.iconst 1, 1) := by decide +kernel
theorem dX6_has_11 : decode cX6_has 11 = .ok (.goto 4, 3) := by decide +kernel
theorem dX6_has_14 : decode cX6_has 14 = .ok (.iconst 0, 1) := by decide +kernel
theorem dX6_has_15 : decode cX6_has 15 = .ok (.ireturn, 1) := by decide +kernel
theorem dX7_named_0 : decode cX7_named 0 = .ok (.aload_n 0, 1) := by decide +kernel
theorem dX7_named_1 : decode cX7_named 1 = .ok (.getfield 34, 3) := by decide +kernel
theorem dX7_named_4 : decode cX7_named 4 = .ok (.iload_n 1, 1) := by decide +kernel
theorem dX7_named_5 : decode cX7_named 5 = .ok (.invokevirtual 149, 3) := by decide +kernel
theorem dX7_named_8 : decode cX7_named 8 = .ok (.ifCond .eq 10, 3) := by decide +kernel
theorem dX7_named_11 : decode cX7_named 11 = .ok (.iload_n 2, 1) := by decide +kernel
theorem dX7_named_12 : decode cX7_named 12 = .ok (.invokestatic 115, 3) := by decide +kernel
theorem dX7_named_15 : decode cX7_named 15 = .ok (.ifCond .ne 13, 3) := by decide +kernel
theorem dX7_named_18 : decode cX7_named 18 = .ok (.new 118, 3) := by decide +kernel
theorem dX7_named_21 : decode cX7_named 21 = .ok (.dup, 1) := by decide +kernel
theorem dX7_named_22 : decode cX7_named 22 = .ok (.ldc 152, 2) := by decide +kernel
theorem dX7_named_24 : decode cX7_named 24 = .ok (.invokespecial 122, 3) := by decide +kernel
theorem dX7_named_27 : decode cX7_named 27 = .ok (.athrow, 1) := by decide +kernel
theorem dX7_named_28 : decode cX7_named 28 = .ok (.iload_n 2, 1) := by decide +kernel
theorem dX7_named_29 : decode cX7_named 29 = .ok (.ifCond .ne 14, 3) := by decide +kernel
theorem dX7_named_32 : decode cX7_named 32 = .ok (.aload_n 0, 1) := by decide +kernel
theorem dX7_named_33 : decode cX7_named 33 = .ok (.getfield 34, 3) := by decide +kernel
theorem dX7_named_36 : decode cX7_named 36 = .ok (.iload_n 1, 1) := by decide +kernel
theorem dX7_named_37 : decode cX7_named 37 = .ok (.invokevirtual 154, 3) := by decide +kernel
theorem dX7_named_40 : decode cX7_named 40 = .ok (.goto 11, 3) := by decide +kernel
theorem dX7_named_43 : decode cX7_named 43 = .ok (.aload_n 0, 1) := by decide +kernel
theorem dX7_named_44 : decode cX7_named 44 = .ok (.getfield 34, 3) := by decide +kernel
theorem dX7_named_47 : decode cX7_named 47 = .ok (.iload_n 1, 1) := by decide +kernel
theorem dX7_named_48 : decode cX7_named 48 = .ok (.invokevirtual 157, 3) := by decide +kernel
theorem dX7_named_51 : decode cX7_named 51 = .ok (.ireturn, 1) := by decide +kernel
def fX6_wipe_8_4 : Nat → Int32 → Int32 → St → Option (Int32 × St)
  | 0, _, _, _ => none
  | n + 1, q1, q2, S =>
    if (40 : Int32) ≤ q2 then
      some (q1, S)
    else
      if vq q2 40 then
      if (S.1 9 q2.toNatClampNeg) = (-1 : Int32) then
        if vq q2 40 then
        stp (si S 9 q2.toNatClampNeg (-1 : Int32)) fun S4 =>
        if vq q2 40 then
        stp (si S4 10 q2.toNatClampNeg (0 : Int32)) fun S5 =>
        stv (q2 + 1) fun y6 =>
        fX6_wipe_8_4 n q1 y6 S5
        else none
        else none
      else
        stv (q1 + 1) fun y7 =>
        if vq q2 40 then
        stp (si S 9 q2.toNatClampNeg (-1 : Int32)) fun S8 =>
        if vq q2 40 then
        stp (si S8 10 q2.toNatClampNeg (0 : Int32)) fun S9 =>
        stv (q2 + 1) fun y10 =>
        fX6_wipe_8_4 n y7 y10 S9
        else none
        else none
      else none
def fX6_wipe_8 (S : St) : Option (Int32 × St) :=
  stv (0 : Int32) fun y1 =>
  stv (0 : Int32) fun y2 =>
  fX6_wipe_8_4 500 y1 y2 S
def fX7_forget_0 (S : St) : Option (Int32 × St) :=
  bnd (fX1_wipe_11 S) fun _ S1 =>
  bnd (fX5_wipe_20 S1) fun _ S2 =>
  stp (si S2 0 7 (0 : Int32)) fun S3 =>
  bnd (fX6_wipe_8 S3) fun r4 S4 =>
  some (r4, S4)
def fX2_has_5_16 (S : St) : Option (Int32 × St) :=
    some ((0 : Int32), S)
def fX2_has_5 (p1 : Int32) (S : St) : Option (Int32 × St) :=
  if p1 < 0 then
    fX2_has_5_16 S
  else
    if (S.1 5 2) ≤ p1 then
      fX2_has_5_16 S
    else
      some ((1 : Int32), S)
def fX7_isKindOrNumber_9 (S : St) : Option (Int32 × St) :=
    some ((1 : Int32), S)
def fX7_isKindOrNumber (p1 : Int32) (S : St) : Option (Int32 × St) :=
  if p1 = 0 then
    fX7_isKindOrNumber_9 S
  else
    if p1 = (1 : Int32) then
      fX7_isKindOrNumber_9 S
    else
      some ((0 : Int32), S)
def fX2_kindAt_5_21 (S : St) : Option (Int32 × St) :=
    some ((-1 : Int32), S)
def fX2_kindAt_5 (p1 : Int32) (S : St) : Option (Int32 × St) :=
  if p1 < 0 then
    fX2_kindAt_5_21 S
  else
    if (S.1 5 2) ≤ p1 then
      fX2_kindAt_5_21 S
    else
      if vq p1 60 then
      some (S.1 6 p1.toNatClampNeg, S)
      else none
def fX2_numberAt_5_21 (S : St) : Option (Int32 × St) :=
    some ((0 : Int32), S)
def fX2_numberAt_5 (p1 : Int32) (S : St) : Option (Int32 × St) :=
  if p1 < 0 then
    fX2_numberAt_5_21 S
  else
    if (S.1 5 2) ≤ p1 then
      fX2_numberAt_5_21 S
    else
      if vq p1 60 then
      some (S.1 7 p1.toNatClampNeg, S)
      else none
def fX7_value_0_18 (S : St) : Option (Option Int32 × St) :=
    some (none, S)
def fX7_value_0 (p1 : Int32) (p2 : Int32) (S : St) : Option (Option Int32 × St) :=
  bnd (fX2_has_5 p1 S) fun r1 S1 =>
  if r1 = 0 then
    fX7_value_0_18 S1
  else
    bnd (fX7_isKindOrNumber p2 S1) fun r3 S3 =>
    if r3 = 0 then
      fX7_value_0_18 S3
    else
      if p2 = 0 then
        bnd (fX2_kindAt_5 p1 S3) fun r6 S6 =>
        some (some r6, S6)
      else
        bnd (fX2_numberAt_5 p1 S3) fun r7 S7 =>
        some (some r7, S7)
def fX0_most_13 (S : St) : Option (Int32 × St) :=
  some (S.1 13 7, S)
def fX7_record_0 (p1 : Int32) (S : St) : Option (Option Int32 × St) :=
  bnd (fX5_has_20 p1 S) fun r1 S1 =>
  if r1 = 0 then
    if p1 = 6 then
      some (some (S1.1 0 9), S1)
    else
      if p1 = 7 then
        bnd (fX0_most_13 S1) fun r5 S5 =>
        some (some r5, S5)
      else
        if p1 = 8 then
          some (some (S1.1 0 10), S1)
        else
          some (none, S1)
  else
    bnd (fX5_told_20 p1 S1) fun r7 S7 =>
    some (some r7, S7)
def fX5_pile_20 (S : St) : Option (Int32 × St) :=
  some (0, S)
def fX2_has_21_16 (S : St) : Option (Int32 × St) :=
    some ((0 : Int32), S)
def fX2_has_21 (p1 : Int32) (S : St) : Option (Int32 × St) :=
  if p1 < 0 then
    fX2_has_21_16 S
  else
    if (S.1 21 2) ≤ p1 then
      fX2_has_21_16 S
    else
      some ((1 : Int32), S)
def fX2_kindAt_21_21 (S : St) : Option (Int32 × St) :=
    some ((-1 : Int32), S)
def fX2_kindAt_21 (p1 : Int32) (S : St) : Option (Int32 × St) :=
  if p1 < 0 then
    fX2_kindAt_21_21 S
  else
    if (S.1 21 2) ≤ p1 then
      fX2_kindAt_21_21 S
    else
      if vq p1 60 then
      some (S.1 22 p1.toNatClampNeg, S)
      else none
def fX2_numberAt_21_21 (S : St) : Option (Int32 × St) :=
    some ((0 : Int32), S)
def fX2_numberAt_21 (p1 : Int32) (S : St) : Option (Int32 × St) :=
  if p1 < 0 then
    fX2_numberAt_21_21 S
  else
    if (S.1 21 2) ≤ p1 then
      fX2_numberAt_21_21 S
    else
      if vq p1 60 then
      some (S.1 23 p1.toNatClampNeg, S)
      else none
def fX7_kept_0_21 (S : St) : Option (Option Int32 × St) :=
    some (none, S)
def fX7_kept_0 (p1 : Int32) (p2 : Int32) (S : St) : Option (Option Int32 × St) :=
  bnd (fX5_pile_20 S) fun r1 S1 =>
  bnd (fX2_has_21 p1 S1) fun r2 S2 =>
  if r2 = 0 then
    fX7_kept_0_21 S2
  else
    bnd (fX7_isKindOrNumber p2 S2) fun r4 S4 =>
    if r4 = 0 then
      fX7_kept_0_21 S4
    else
      if p2 = 0 then
        bnd (fX5_pile_20 S4) fun r7 S7 =>
        bnd (fX2_kindAt_21 p1 S7) fun r8 S8 =>
        some (some r8, S8)
      else
        bnd (fX5_pile_20 S4) fun r9 S9 =>
        bnd (fX2_numberAt_21 p1 S9) fun r10 S10 =>
        some (some r10, S10)
def fX1_has_11_15 (S : St) : Option (Int32 × St) :=
    some ((0 : Int32), S)
def fX1_has_11 (p1 : Int32) (S : St) : Option (Int32 × St) :=
  if p1 < (1 : Int32) then
    fX1_has_11_15 S
  else
    if (11 : Int32) < p1 then
      fX1_has_11_15 S
    else
      some ((1 : Int32), S)
def fX7_handler_0 (p1 : Int32) (S : St) : Option (Option Int32 × St) :=
  bnd (fX1_has_11 p1 S) fun r1 S1 =>
  if r1 = 0 then
    some (none, S1)
  else
    bnd (fX1_of_11 p1 S1) fun r3 S3 =>
    some (some r3, S3)
def fX6_has_8_14 (S : St) : Option (Int32 × St) :=
    some ((0 : Int32), S)
def fX6_has_8 (p1 : Int32) (S : St) : Option (Int32 × St) :=
  if p1 < 0 then
    fX6_has_8_14 S
  else
    if (40 : Int32) ≤ p1 then
      fX6_has_8_14 S
    else
      some ((1 : Int32), S)
def fX7_named_0_18 (S : St) : Option (Option Int32 × St) :=
    some (none, S)
def fX7_named_0 (p1 : Int32) (p2 : Int32) (S : St) : Option (Option Int32 × St) :=
  bnd (fX6_has_8 p1 S) fun r1 S1 =>
  if r1 = 0 then
    fX7_named_0_18 S1
  else
    bnd (fX7_isKindOrNumber p2 S1) fun r3 S3 =>
    if r3 = 0 then
      fX7_named_0_18 S3
    else
      if p2 = 0 then
        bnd (fX6_kindOf_8 p1 S3) fun r6 S6 =>
        some (some r6, S6)
      else
        bnd (fX6_numberOf_8 p1 S3) fun r7 S7 =>
        some (some r7, S7)
set_option maxRecDepth 100000 in
set_option maxHeartbeats 4000000 in
theorem rX6_wipe_8_4 {p : Program} {l : Launch} {e : Env} {s : State} {m : MethodId} {args : Array Value} {below : List Frame} {meth : Method} {c : Code} {D : va_G} {a : Nat → Nat} {cI cJ : ClassId} {tk : Nat} {tf : Nat → Int32} (C : Cx p s m args meth c RX6 cX6_wipe 3 D cI cJ tk tf (AR a 25 s.heap.size)) (hr : meth.sig.returnType = (some .int)) : ∀ (n : Nat) (q1 : Int32) (q2 : Int32) (S : St) (x : Int32 × St) (H : Heap) (locs : List Loc) (ls : Array Slot), fX6_wipe_8_4 n q1 q2 S = some x → Wd D (wE a cI cJ) (AR a 25 s.heap.size) s S H locs → lv_has ls 3 [(0, .ref (a 8)), (1, .int q1), (2, .int q2)] → W p l e { frames := 0, cells := 0, slots := 0, locals := 0 } s m args below meth c H locs 0 0 (MQ below (Qi D (wE a cI cJ) (AR a 25 s.heap.size) x) args s 0 0 (AR a 25 s.heap.size)) (F0 m 4 ls []) := by
  intro n
  induction n with
  | zero => intro q1 q2 S x H locs ls hf G hl; cases hf
  | succ n ih =>
    intro q1 q2 S x H locs ls hf G hl
    rw [fX6_wipe_8_4.eq_2] at hf
    refine lv_iload_n C.1 C.2.1 dX6_wipe_4 rfl (lv_at hl 2 rfl) ?_
    refine lv_bipush (v := 40) C.1 C.2.1 dX6_wipe_5 (by decide) ?_
    refine lv_icmp_ge (tgt := 43) C.1 C.2.1 dX6_wipe_7 (by decide) (fun c1 => ?_) (fun c1 => ?_)
    · replace hf := ifp c1 hf
      refine lv_iload_n C.1 C.2.1 dX6_wipe_43 rfl (lv_at hl 1 rfl) ?_
      exact r_iret C hr G hf dX6_wipe_44
    · replace hf := ifq c1 hf
      refine lv_aload_n C.1 C.2.1 dX6_wipe_10 rfl (lv_at hl 0 rfl) ?_
      refine gE_8_0 C G k_129 dX6_wipe_11 ?_
      refine lv_iload_n C.1 C.2.1 dX6_wipe_14 rfl (lv_at hl 2 rfl) ?_
      obtain ⟨hi2, hf⟩ := ifn hf
      refine aE_9 C G hi2 dX6_wipe_15 ?_
      refine lv_iconst (v := (-1)) C.1 C.2.1 dX6_wipe_16 (by decide) ?_
      refine lv_icmp_eq (tgt := 23) C.1 C.2.1 dX6_wipe_17 (by decide) (fun c3 => ?_) (fun c3 => ?_)
      · replace hf := ifp c3 hf
        refine lv_aload_n C.1 C.2.1 dX6_wipe_23 rfl (lv_at hl 0 rfl) ?_
        refine gE_8_0 C G k_129 dX6_wipe_24 ?_
        refine lv_iload_n C.1 C.2.1 dX6_wipe_27 rfl (lv_at hl 2 rfl) ?_
        refine lv_iconst (v := (-1)) C.1 C.2.1 dX6_wipe_28 (by decide) ?_
        obtain ⟨hi4, hf⟩ := ifn hf
        refine sE_9 C G hi4 dX6_wipe_29 (fun H locs G => ?_)
        obtain ⟨S4, eS4, hf⟩ := stp_e hf
        rw [← eS4] at G
        clear eS4
        refine lv_aload_n C.1 C.2.1 dX6_wipe_30 rfl (lv_at hl 0 rfl) ?_
        refine gE_8_1 C G k_130 dX6_wipe_31 ?_
        refine lv_iload_n C.1 C.2.1 dX6_wipe_34 rfl (lv_at hl 2 rfl) ?_
        refine lv_iconst (v := 0) C.1 C.2.1 dX6_wipe_35 (by decide) ?_
        obtain ⟨hi5, hf⟩ := ifn hf
        refine sE_10 C G hi5 dX6_wipe_36 (fun H locs G => ?_)
        obtain ⟨S5, eS5, hf⟩ := stp_e hf
        rw [← eS5] at G
        clear eS5
        obtain ⟨y6, ey6, hf⟩ := stv_e hf
        refine lv_iinc (v := y6) (lv' := [(2, .int y6), (0, .ref (a 8)), (1, .int q1)]) C.1 C.2.1 dX6_wipe_37 hl (k := 2) rfl (by rw [ey6]; rfl) (by decide) rfl (fun ls hl => ?_)
        refine lv_goto (tgt := 4) C.1 C.2.1 dX6_wipe_40 (by decide) ?_
        exact ih q1 y6 S5 _ _ _ _ hf G (lv_sub hl [1, 2, 0] rfl)
      · replace hf := ifq c3 hf
        obtain ⟨y7, ey7, hf⟩ := stv_e hf
        refine lv_iinc (v := y7) (lv' := [(1, .int y7), (0, .ref (a 8)), (2, .int q2)]) C.1 C.2.1 dX6_wipe_20 hl (k := 1) rfl (by rw [ey7]; rfl) (by decide) rfl (fun ls hl => ?_)
        refine lv_aload_n C.1 C.2.1 dX6_wipe_23 rfl (lv_at hl 1 rfl) ?_
        refine gE_8_0 C G k_129 dX6_wipe_24 ?_
        refine lv_iload_n C.1 C.2.1 dX6_wipe_27 rfl (lv_at hl 2 rfl) ?_
        refine lv_iconst (v := (-1)) C.1 C.2.1 dX6_wipe_28 (by decide) ?_
        obtain ⟨hi8, hf⟩ := ifn hf
        refine sE_9 C G hi8 dX6_wipe_29 (fun H locs G => ?_)
        obtain ⟨S8, eS8, hf⟩ := stp_e hf
        rw [← eS8] at G
        clear eS8
        refine lv_aload_n C.1 C.2.1 dX6_wipe_30 rfl (lv_at hl 1 rfl) ?_
        refine gE_8_1 C G k_130 dX6_wipe_31 ?_
        refine lv_iload_n C.1 C.2.1 dX6_wipe_34 rfl (lv_at hl 2 rfl) ?_
        refine lv_iconst (v := 0) C.1 C.2.1 dX6_wipe_35 (by decide) ?_
        obtain ⟨hi9, hf⟩ := ifn hf
        refine sE_10 C G hi9 dX6_wipe_36 (fun H locs G => ?_)
        obtain ⟨S9, eS9, hf⟩ := stp_e hf
        rw [← eS9] at G
        clear eS9
        obtain ⟨y10, ey10, hf⟩ := stv_e hf
        refine lv_iinc (v := y10) (lv' := [(2, .int y10), (1, .int y7), (0, .ref (a 8))]) C.1 C.2.1 dX6_wipe_37 hl (k := 2) rfl (by rw [ey10]; rfl) (by decide) rfl (fun ls hl => ?_)
        refine lv_goto (tgt := 4) C.1 C.2.1 dX6_wipe_40 (by decide) ?_
        exact ih y7 y10 S9 _ _ _ _ hf G (lv_sub hl [2, 1, 0] rfl)
set_option maxRecDepth 100000 in
set_option maxHeartbeats 4000000 in
theorem mX6_wipe_8 (l : Launch) (D : va_G) (a : Nat → Nat) (cI cJ : ClassId) (tk : Nat) (tf : Nat → Int32) (S : St) (x : Int32 × St) (hf : fX6_wipe_8 S = some x) : Mi l D (wE a cI cJ) a 25 cI cJ tk tf yX6_wipe cX6_wipe 3 (some .int) { frames := 0, cells := 0, slots := 0, locals := 0 } [.ref (a 8)] S x := by
  refine opn_i (by decide +kernel) (Nat.le_of_ble_eq_true rfl) (fun p e s m below meth c C hr G ls hl => ?_)
  replace hl : lv_has ls 3 [(0, .ref (a 8))] := hl
  unfold fX6_wipe_8 at hf
  refine lv_iconst (v := 0) C.1 C.2.1 dX6_wipe_0 (by decide) ?_
  obtain ⟨y1, ey1, hf⟩ := stv_e hf
  refine nm_i ey1 ?_
  refine lv_istore_n (lv' := [(1, .int y1), (0, .ref (a 8))]) C.1 C.2.1 dX6_wipe_1 rfl hl (by decide) rfl (fun ls hl => ?_)
  refine lv_iconst (v := 0) C.1 C.2.1 dX6_wipe_2 (by decide) ?_
  obtain ⟨y2, ey2, hf⟩ := stv_e hf
  refine nm_i ey2 ?_
  refine lv_istore_n (lv' := [(2, .int y2), (1, .int y1), (0, .ref (a 8))]) C.1 C.2.1 dX6_wipe_3 rfl hl (by decide) rfl (fun ls hl => ?_)
  exact rX6_wipe_8_4 C hr 500 y1 y2 S _ _ _ _ hf G (lv_sub hl [2, 1, 0] rfl)
set_option maxRecDepth 100000 in
set_option maxHeartbeats 4000000 in
theorem mX7_forget_0 (l : Launch) (D : va_G) (a : Nat → Nat) (cI cJ : ClassId) (tk : Nat) (tf : Nat → Int32) (S : St) (x : Int32 × St) (hf : fX7_forget_0 S = some x) : Mi l D (wE a cI cJ) a 25 cI cJ tk tf yX7_forget cX7_forget 1 (some .int) { frames := 2, cells := 0, slots := 0, locals := 43 } [.ref (a 0)] S x := by
  refine opn_i (by decide +kernel) (Nat.le_of_ble_eq_true rfl) (fun p e s m below meth c C hr G ls hl => ?_)
  replace hl : lv_has ls 1 [(0, .ref (a 0))] := hl
  unfold fX7_forget_0 at hf
  refine lv_aload_n C.1 C.2.1 dX7_forget_0 rfl (lv_at hl 0 rfl) ?_
  refine gE_0_4 C G k_225 dX7_forget_1 ?_
  obtain ⟨r1, S1, eS1, hf⟩ := bnd_e hf
  refine r_calv (As := []) (na := 0) C adE G (mX1_wipe_11 l D a cI cJ tk tf S _ eS1) k_598 k_599 k_600 k_65 k_601 (q0 := 11) rfl (ci := 1) rfl (by decide +kernel) ⟨Nat.le_of_ble_eq_true rfl, Nat.le_of_ble_eq_true rfl⟩ rfl rfl ⟨Nat.zero_le _, Nat.zero_le _⟩ rfl hl.1 rfl (Nat.le_of_ble_eq_true rfl) dX7_forget_4 (fun H locs G => ?_)
  refine lv_aload_n C.1 C.2.1 dX7_forget_7 rfl (lv_at hl 0 rfl) ?_
  refine gE_0_6 C G k_227 dX7_forget_8 ?_
  obtain ⟨r2, S2, eS2, hf⟩ := bnd_e hf
  refine r_calv (As := []) (na := 0) C adE G (mX5_wipe_20 l D a cI cJ tk tf S1 _ eS2) k_602 k_603 k_604 k_67 k_605 (q0 := 20) rfl (ci := 5) rfl (by decide +kernel) ⟨Nat.le_of_ble_eq_true rfl, Nat.le_of_ble_eq_true rfl⟩ rfl rfl ⟨Nat.zero_le _, Nat.zero_le _⟩ rfl hl.1 rfl (Nat.le_of_ble_eq_true rfl) dX7_forget_11 (fun H locs G => ?_)
  refine lv_aload_n C.1 C.2.1 dX7_forget_14 rfl (lv_at hl 0 rfl) ?_
  refine lv_iconst (v := 0) C.1 C.2.1 dX7_forget_15 (by decide) ?_
  refine pE_0_7 C G (Or.inl rfl) k_228 dX7_forget_16 (fun H locs G => ?_)
  obtain ⟨S3, eS3, hf⟩ := stp_e hf
  rw [← eS3] at G
  clear eS3
  refine lv_aload_n C.1 C.2.1 dX7_forget_19 rfl (lv_at hl 0 rfl) ?_
  refine gE_0_3 C G k_224 dX7_forget_20 ?_
  obtain ⟨r4, S4, eS4, hf⟩ := bnd_e hf
  refine r_cali (As := []) (na := 0) C adE G (mX6_wipe_8 l D a cI cJ tk tf S3 _ eS4) k_607 k_608 k_609 k_63 k_610 (q0 := 8) rfl (ci := 6) rfl (by decide +kernel) ⟨Nat.le_of_ble_eq_true rfl, Nat.le_of_ble_eq_true rfl⟩ rfl rfl ⟨Nat.zero_le _, Nat.zero_le _⟩ rfl hl.1 rfl (Nat.le_of_ble_eq_true rfl) dX7_forget_23 (fun H locs G => ?_)
  exact r_iret C hr G hf dX7_forget_26
set_option maxRecDepth 100000 in
set_option maxHeartbeats 4000000 in
theorem rX2_has_5_16 {p : Program} {l : Launch} {e : Env} {s : State} {m : MethodId} {args : Array Value} {below : List Frame} {meth : Method} {c : Code} {D : va_G} {a : Nat → Nat} {cI cJ : ClassId} {tk : Nat} {tf : Nat → Int32} (C : Cx p s m args meth c RX2 cX2_has 2 D cI cJ tk tf (AR a 25 s.heap.size)) (hr : meth.sig.returnType = (some .boolean)) : ∀ (S : St) (x : Int32 × St) (H : Heap) (locs : List Loc) (ls : Array Slot), fX2_has_5_16 S = some x → Wd D (wE a cI cJ) (AR a 25 s.heap.size) s S H locs → lv_has ls 2 [] → W p l e { frames := 0, cells := 0, slots := 0, locals := 0 } s m args below meth c H locs 0 0 (MQ below (Qi D (wE a cI cJ) (AR a 25 s.heap.size) x) args s 0 0 (AR a 25 s.heap.size)) (F0 m 16 ls []) := by
  intro S x H locs ls hf G hl
  unfold fX2_has_5_16 at hf
  refine lv_iconst (v := 0) C.1 C.2.1 dX2_has_16 (by decide) ?_
  exact r_zret C hr (Or.inl rfl) G hf dX2_has_17
set_option maxRecDepth 100000 in
set_option maxHeartbeats 4000000 in
theorem mX2_has_5 (l : Launch) (D : va_G) (a : Nat → Nat) (cI cJ : ClassId) (tk : Nat) (tf : Nat → Int32) (p1 : Int32) (S : St) (x : Int32 × St) (hf : fX2_has_5 p1 S = some x) : Mi l D (wE a cI cJ) a 25 cI cJ tk tf yX2_has cX2_has 2 (some .boolean) { frames := 0, cells := 0, slots := 0, locals := 0 } [.ref (a 5), .int p1] S x := by
  refine opn_i (by decide +kernel) (Nat.le_of_ble_eq_true rfl) (fun p e s m below meth c C hr G ls hl => ?_)
  replace hl : lv_has ls 2 [(0, .ref (a 5)), (1, .int p1)] := hl
  unfold fX2_has_5 at hf
  refine lv_iload_n C.1 C.2.1 dX2_has_0 rfl (lv_at hl 1 rfl) ?_
  refine lv_if_lt (tgt := 16) C.1 C.2.1 dX2_has_1 (by decide) (fun c1 => ?_) (fun c1 => ?_)
  · replace hf := ifp c1 hf
    exact rX2_has_5_16 C hr S _ _ _ _ hf G (lv_sub hl [] rfl)
  · replace hf := ifq c1 hf
    refine lv_iload_n C.1 C.2.1 dX2_has_4 rfl (lv_at hl 1 rfl) ?_
    refine lv_aload_n C.1 C.2.1 dX2_has_5 rfl (lv_at hl 0 rfl) ?_
    refine gE_5_2 C G k_112 dX2_has_6 ?_
    refine lv_icmp_ge (tgt := 16) C.1 C.2.1 dX2_has_9 (by decide) (fun c2 => ?_) (fun c2 => ?_)
    · replace hf := ifp c2 hf
      exact rX2_has_5_16 C hr S _ _ _ _ hf G (lv_sub hl [] rfl)
    · replace hf := ifq c2 hf
      refine lv_iconst (v := 1) C.1 C.2.1 dX2_has_12 (by decide) ?_
      refine lv_goto (tgt := 17) C.1 C.2.1 dX2_has_13 (by decide) ?_
      exact r_zret C hr (Or.inr rfl) G hf dX2_has_17
set_option maxRecDepth 100000 in
set_option maxHeartbeats 4000000 in
theorem rX7_isKindOrNumber_9 {p : Program} {l : Launch} {e : Env} {s : State} {m : MethodId} {args : Array Value} {below : List Frame} {meth : Method} {c : Code} {D : va_G} {a : Nat → Nat} {cI cJ : ClassId} {tk : Nat} {tf : Nat → Int32} (C : Cx p s m args meth c RX7 cX7_isKindOrNumber 1 D cI cJ tk tf (AR a 25 s.heap.size)) (hr : meth.sig.returnType = (some .boolean)) : ∀ (S : St) (x : Int32 × St) (H : Heap) (locs : List Loc) (ls : Array Slot), fX7_isKindOrNumber_9 S = some x → Wd D (wE a cI cJ) (AR a 25 s.heap.size) s S H locs → lv_has ls 1 [] → W p l e { frames := 0, cells := 0, slots := 0, locals := 0 } s m args below meth c H locs 0 0 (MQ below (Qi D (wE a cI cJ) (AR a 25 s.heap.size) x) args s 0 0 (AR a 25 s.heap.size)) (F0 m 9 ls []) := by
  intro S x H locs ls hf G hl
  unfold fX7_isKindOrNumber_9 at hf
  refine lv_iconst (v := 1) C.1 C.2.1 dX7_isKindOrNumber_9 (by decide) ?_
  refine lv_goto (tgt := 14) C.1 C.2.1 dX7_isKindOrNumber_10 (by decide) ?_
  exact r_zret C hr (Or.inr rfl) G hf dX7_isKindOrNumber_14
set_option maxRecDepth 100000 in
set_option maxHeartbeats 4000000 in
theorem mX7_isKindOrNumber (l : Launch) (D : va_G) (a : Nat → Nat) (cI cJ : ClassId) (tk : Nat) (tf : Nat → Int32) (p1 : Int32) (S : St) (x : Int32 × St) (hf : fX7_isKindOrNumber p1 S = some x) : Mi l D (wE a cI cJ) a 25 cI cJ tk tf yX7_isKindOrNumber cX7_isKindOrNumber 1 (some .boolean) { frames := 0, cells := 0, slots := 0, locals := 0 } [.int p1] S x := by
  refine opn_i (by decide +kernel) (Nat.le_of_ble_eq_true rfl) (fun p e s m below meth c C hr G ls hl => ?_)
  replace hl : lv_has ls 1 [(0, .int p1)] := hl
  unfold fX7_isKindOrNumber at hf
  refine lv_iload_n C.1 C.2.1 dX7_isKindOrNumber_0 rfl (lv_at hl 0 rfl) ?_
  refine lv_if_eq (tgt := 9) C.1 C.2.1 dX7_isKindOrNumber_1 (by decide) (fun c1 => ?_) (fun c1 => ?_)
  · replace hf := ifp c1 hf
    exact rX7_isKindOrNumber_9 C hr S _ _ _ _ hf G (lv_sub hl [] rfl)
  · replace hf := ifq c1 hf
    refine lv_iload_n C.1 C.2.1 dX7_isKindOrNumber_4 rfl (lv_at hl 0 rfl) ?_
    refine lv_iconst (v := 1) C.1 C.2.1 dX7_isKindOrNumber_5 (by decide) ?_
    refine lv_icmp_ne (tgt := 13) C.1 C.2.1 dX7_isKindOrNumber_6 (by decide) (fun c2 => ?_) (fun c2 => ?_)
    · replace hf := ifq c2 hf
      refine lv_iconst (v := 0) C.1 C.2.1 dX7_isKindOrNumber_13 (by decide) ?_
      exact r_zret C hr (Or.inl rfl) G hf dX7_isKindOrNumber_14
    · replace hf := ifp c2 hf
      exact rX7_isKindOrNumber_9 C hr S _ _ _ _ hf G (lv_sub hl [] rfl)
set_option maxRecDepth 100000 in
set_option maxHeartbeats 4000000 in
theorem rX2_kindAt_5_21 {p : Program} {l : Launch} {e : Env} {s : State} {m : MethodId} {args : Array Value} {below : List Frame} {meth : Method} {c : Code} {D : va_G} {a : Nat → Nat} {cI cJ : ClassId} {tk : Nat} {tf : Nat → Int32} (C : Cx p s m args meth c RX2 cX2_kindAt 2 D cI cJ tk tf (AR a 25 s.heap.size)) (hr : meth.sig.returnType = (some .int)) : ∀ (S : St) (x : Int32 × St) (H : Heap) (locs : List Loc) (ls : Array Slot), fX2_kindAt_5_21 S = some x → Wd D (wE a cI cJ) (AR a 25 s.heap.size) s S H locs → lv_has ls 2 [] → W p l e { frames := 0, cells := 0, slots := 0, locals := 0 } s m args below meth c H locs 0 0 (MQ below (Qi D (wE a cI cJ) (AR a 25 s.heap.size) x) args s 0 0 (AR a 25 s.heap.size)) (F0 m 21 ls []) := by
  intro S x H locs ls hf G hl
  unfold fX2_kindAt_5_21 at hf
  refine lv_iconst (v := (-1)) C.1 C.2.1 dX2_kindAt_21 (by decide) ?_
  exact r_iret C hr G hf dX2_kindAt_22
set_option maxRecDepth 100000 in
set_option maxHeartbeats 4000000 in
theorem mX2_kindAt_5 (l : Launch) (D : va_G) (a : Nat → Nat) (cI cJ : ClassId) (tk : Nat) (tf : Nat → Int32) (p1 : Int32) (S : St) (x : Int32 × St) (hf : fX2_kindAt_5 p1 S = some x) : Mi l D (wE a cI cJ) a 25 cI cJ tk tf yX2_kindAt cX2_kindAt 2 (some .int) { frames := 0, cells := 0, slots := 0, locals := 0 } [.ref (a 5), .int p1] S x := by
  refine opn_i (by decide +kernel) (Nat.le_of_ble_eq_true rfl) (fun p e s m below meth c C hr G ls hl => ?_)
  replace hl : lv_has ls 2 [(0, .ref (a 5)), (1, .int p1)] := hl
  unfold fX2_kindAt_5 at hf
  refine lv_iload_n C.1 C.2.1 dX2_kindAt_0 rfl (lv_at hl 1 rfl) ?_
  refine lv_if_lt (tgt := 21) C.1 C.2.1 dX2_kindAt_1 (by decide) (fun c1 => ?_) (fun c1 => ?_)
  · replace hf := ifp c1 hf
    exact rX2_kindAt_5_21 C hr S _ _ _ _ hf G (lv_sub hl [] rfl)
  · replace hf := ifq c1 hf
    refine lv_iload_n C.1 C.2.1 dX2_kindAt_4 rfl (lv_at hl 1 rfl) ?_
    refine lv_aload_n C.1 C.2.1 dX2_kindAt_5 rfl (lv_at hl 0 rfl) ?_
    refine gE_5_2 C G k_112 dX2_kindAt_6 ?_
    refine lv_icmp_ge (tgt := 21) C.1 C.2.1 dX2_kindAt_9 (by decide) (fun c2 => ?_) (fun c2 => ?_)
    · replace hf := ifp c2 hf
      exact rX2_kindAt_5_21 C hr S _ _ _ _ hf G (lv_sub hl [] rfl)
    · replace hf := ifq c2 hf
      refine lv_aload_n C.1 C.2.1 dX2_kindAt_12 rfl (lv_at hl 0 rfl) ?_
      refine gE_5_0 C G k_110 dX2_kindAt_13 ?_
      refine lv_iload_n C.1 C.2.1 dX2_kindAt_16 rfl (lv_at hl 1 rfl) ?_
      obtain ⟨hi3, hf⟩ := ifn hf
      refine aE_6 C G hi3 dX2_kindAt_17 ?_
      refine lv_goto (tgt := 22) C.1 C.2.1 dX2_kindAt_18 (by decide) ?_
      exact r_iret C hr G hf dX2_kindAt_22
set_option maxRecDepth 100000 in
set_option maxHeartbeats 4000000 in
theorem rX2_numberAt_5_21 {p : Program} {l : Launch} {e : Env} {s : State} {m : MethodId} {args : Array Value} {below : List Frame} {meth : Method} {c : Code} {D : va_G} {a : Nat → Nat} {cI cJ : ClassId} {tk : Nat} {tf : Nat → Int32} (C : Cx p s m args meth c RX2 cX2_numberAt 2 D cI cJ tk tf (AR a 25 s.heap.size)) (hr : meth.sig.returnType = (some .int)) : ∀ (S : St) (x : Int32 × St) (H : Heap) (locs : List Loc) (ls : Array Slot), fX2_numberAt_5_21 S = some x → Wd D (wE a cI cJ) (AR a 25 s.heap.size) s S H locs → lv_has ls 2 [] → W p l e { frames := 0, cells := 0, slots := 0, locals := 0 } s m args below meth c H locs 0 0 (MQ below (Qi D (wE a cI cJ) (AR a 25 s.heap.size) x) args s 0 0 (AR a 25 s.heap.size)) (F0 m 21 ls []) := by
  intro S x H locs ls hf G hl
  unfold fX2_numberAt_5_21 at hf
  refine lv_iconst (v := 0) C.1 C.2.1 dX2_numberAt_21 (by decide) ?_
  exact r_iret C hr G hf dX2_numberAt_22
set_option maxRecDepth 100000 in
set_option maxHeartbeats 4000000 in
theorem mX2_numberAt_5 (l : Launch) (D : va_G) (a : Nat → Nat) (cI cJ : ClassId) (tk : Nat) (tf : Nat → Int32) (p1 : Int32) (S : St) (x : Int32 × St) (hf : fX2_numberAt_5 p1 S = some x) : Mi l D (wE a cI cJ) a 25 cI cJ tk tf yX2_numberAt cX2_numberAt 2 (some .int) { frames := 0, cells := 0, slots := 0, locals := 0 } [.ref (a 5), .int p1] S x := by
  refine opn_i (by decide +kernel) (Nat.le_of_ble_eq_true rfl) (fun p e s m below meth c C hr G ls hl => ?_)
  replace hl : lv_has ls 2 [(0, .ref (a 5)), (1, .int p1)] := hl
  unfold fX2_numberAt_5 at hf
  refine lv_iload_n C.1 C.2.1 dX2_numberAt_0 rfl (lv_at hl 1 rfl) ?_
  refine lv_if_lt (tgt := 21) C.1 C.2.1 dX2_numberAt_1 (by decide) (fun c1 => ?_) (fun c1 => ?_)
  · replace hf := ifp c1 hf
    exact rX2_numberAt_5_21 C hr S _ _ _ _ hf G (lv_sub hl [] rfl)
  · replace hf := ifq c1 hf
    refine lv_iload_n C.1 C.2.1 dX2_numberAt_4 rfl (lv_at hl 1 rfl) ?_
    refine lv_aload_n C.1 C.2.1 dX2_numberAt_5 rfl (lv_at hl 0 rfl) ?_
    refine gE_5_2 C G k_112 dX2_numberAt_6 ?_
    refine lv_icmp_ge (tgt := 21) C.1 C.2.1 dX2_numberAt_9 (by decide) (fun c2 => ?_) (fun c2 => ?_)
    · replace hf := ifp c2 hf
      exact rX2_numberAt_5_21 C hr S _ _ _ _ hf G (lv_sub hl [] rfl)
    · replace hf := ifq c2 hf
      refine lv_aload_n C.1 C.2.1 dX2_numberAt_12 rfl (lv_at hl 0 rfl) ?_
      refine gE_5_1 C G k_111 dX2_numberAt_13 ?_
      refine lv_iload_n C.1 C.2.1 dX2_numberAt_16 rfl (lv_at hl 1 rfl) ?_
      obtain ⟨hi3, hf⟩ := ifn hf
      refine aE_7 C G hi3 dX2_numberAt_17 ?_
      refine lv_goto (tgt := 22) C.1 C.2.1 dX2_numberAt_18 (by decide) ?_
      exact r_iret C hr G hf dX2_numberAt_22
set_option maxRecDepth 100000 in
set_option maxHeartbeats 4000000 in
theorem rX7_value_0_18 {p : Program} {l : Launch} {e : Env} {s : State} {m : MethodId} {args : Array Value} {below : List Frame} {meth : Method} {c : Code} {D : va_G} {a : Nat → Nat} {cI cJ : ClassId} {tk : Nat} {tf : Nat → Int32} (C : Cx p s m args meth c RX7 cX7_value 3 D cI cJ tk tf (AR a 25 s.heap.size)) (hlx : l.stackTraces = false) (hno : ∀ z ∈ c.exceptionTable.toList, False) (X : TX 120 "no such place of the pile, or what" (AR a 25 s.heap.size) s) (hr : meth.sig.returnType = (some .int)) : ∀ (S : St) (x : Option Int32 × St) (H : Heap) (locs : List Loc) (ls : Array Slot), fX7_value_0_18 S = some x → Wd D (wE a cI cJ) (AR a 25 s.heap.size) s S H locs → lv_has ls 3 [] → W p l e { frames := 6, cells := 1, slots := 6, locals := 82 } s m args below meth c H locs 0 0 (vx_MQ below (Qo D (wE a cI cJ) (AR a 25 s.heap.size) x) (Xo D (wE a cI cJ) (AR a 25 s.heap.size) x) args s 1 6 (AR a 25 s.heap.size)) (F0 m 18 ls []) := by
  intro S x H locs ls hf G hl
  unfold fX7_value_0_18 at hf
  exact r_thr hlx C hno X G hf hl.1 dX7_value_18 dX7_value_21 dX7_value_22 dX7_value_24 dX7_value_27 (Nat.le_of_ble_eq_true rfl) (Nat.le_of_ble_eq_true rfl) (Nat.le_of_ble_eq_true rfl) (Nat.le_of_ble_eq_true rfl) ⟨rfl, rfl⟩
set_option maxRecDepth 100000 in
set_option maxHeartbeats 4000000 in
theorem mX7_value_0 (l : Launch) (D : va_G) (a : Nat → Nat) (cI cJ : ClassId) (tk : Nat) (tf : Nat → Int32) (p1 : Int32) (p2 : Int32) (S : St) (x : Option Int32 × St) (hf : fX7_value_0 p1 p2 S = some x) (hlx : l.stackTraces = false) : Mx l D (wE a cI cJ) a 25 cI cJ tk tf 120 "no such place of the pile, or what" yX7_value cX7_value 3 (some .int) { frames := 6, cells := 1, slots := 6, locals := 82 } [.ref (a 0), .int p1, .int p2] S x := by
  refine opn_x (by decide +kernel) (Nat.le_of_ble_eq_true rfl) (fun p e s m below meth c C X hno hr G ls hl => ?_)
  replace hl : lv_has ls 3 [(0, .ref (a 0)), (1, .int p1), (2, .int p2)] := hl
  unfold fX7_value_0 at hf
  refine lv_aload_n C.1 C.2.1 dX7_value_0 rfl (lv_at hl 0 rfl) ?_
  refine gE_0_2 C G k_223 dX7_value_1 ?_
  refine lv_iload_n C.1 C.2.1 dX7_value_4 rfl (lv_at hl 1 rfl) ?_
  obtain ⟨r1, S1, eS1, hf⟩ := bnd_e hf
  refine r_cali (As := [.int p1]) (na := 1) C adE G (mX2_has_5 l D a cI cJ tk tf p1 S _ eS1) k_619 k_620 k_621 k_62 k_622 (q0 := 5) rfl (ci := 2) rfl (by decide +kernel) ⟨Nat.le_of_ble_eq_true rfl, Nat.le_of_ble_eq_true rfl⟩ rfl rfl ⟨Nat.zero_le _, Nat.zero_le _⟩ rfl hl.1 rfl (Nat.le_of_ble_eq_true rfl) dX7_value_5 (fun H locs G => ?_)
  refine lv_if_eq (tgt := 18) C.1 C.2.1 dX7_value_8 (by decide) (fun c2 => ?_) (fun c2 => ?_)
  · replace hf := ifp c2 hf
    exact rX7_value_0_18 C hlx hno X hr S1 _ _ _ _ hf G (lv_sub hl [] rfl)
  · replace hf := ifq c2 hf
    refine lv_iload_n C.1 C.2.1 dX7_value_11 rfl (lv_at hl 2 rfl) ?_
    obtain ⟨r3, S3, eS3, hf⟩ := bnd_e hf
    refine r_cals (As := [.int p2]) (na := 1) C adE G (mX7_isKindOrNumber l D a cI cJ tk tf p2 S1 _ eS3) k_623 k_624 k_59 k_625 (by decide +kernel) ⟨Nat.le_of_ble_eq_true rfl, Nat.le_of_ble_eq_true rfl⟩ rfl rfl ⟨Nat.zero_le _, Nat.zero_le _⟩ rfl hl.1 rfl (Nat.le_of_ble_eq_true rfl) dX7_value_12 (fun H locs G => ?_)
    refine lv_if_ne (tgt := 28) C.1 C.2.1 dX7_value_15 (by decide) (fun c4 => ?_) (fun c4 => ?_)
    · replace hf := ifq c4 hf
      refine lv_iload_n C.1 C.2.1 dX7_value_28 rfl (lv_at hl 2 rfl) ?_
      refine lv_if_ne (tgt := 43) C.1 C.2.1 dX7_value_29 (by decide) (fun c5 => ?_) (fun c5 => ?_)
      · replace hf := ifq c5 hf
        refine lv_aload_n C.1 C.2.1 dX7_value_43 rfl (lv_at hl 0 rfl) ?_
        refine gE_0_2 C G k_223 dX7_value_44 ?_
        refine lv_iload_n C.1 C.2.1 dX7_value_47 rfl (lv_at hl 1 rfl) ?_
        obtain ⟨r7, S7, eS7, hf⟩ := bnd_e hf
        refine r_cali (As := [.int p1]) (na := 1) C adE G (mX2_numberAt_5 l D a cI cJ tk tf p1 S3 _ eS7) k_696 k_697 k_698 k_62 k_699 (q0 := 5) rfl (ci := 2) rfl (by decide +kernel) ⟨Nat.le_of_ble_eq_true rfl, Nat.le_of_ble_eq_true rfl⟩ rfl rfl ⟨Nat.zero_le _, Nat.zero_le _⟩ rfl hl.1 rfl (Nat.le_of_ble_eq_true rfl) dX7_value_48 (fun H locs G => ?_)
        exact r_xret C hr G hf dX7_value_51 ⟨Nat.zero_le _, Nat.zero_le _⟩
      · replace hf := ifp c5 hf
        refine lv_aload_n C.1 C.2.1 dX7_value_32 rfl (lv_at hl 0 rfl) ?_
        refine gE_0_2 C G k_223 dX7_value_33 ?_
        refine lv_iload_n C.1 C.2.1 dX7_value_36 rfl (lv_at hl 1 rfl) ?_
        obtain ⟨r6, S6, eS6, hf⟩ := bnd_e hf
        refine r_cali (As := [.int p1]) (na := 1) C adE G (mX2_kindAt_5 l D a cI cJ tk tf p1 S3 _ eS6) k_692 k_693 k_694 k_62 k_695 (q0 := 5) rfl (ci := 2) rfl (by decide +kernel) ⟨Nat.le_of_ble_eq_true rfl, Nat.le_of_ble_eq_true rfl⟩ rfl rfl ⟨Nat.zero_le _, Nat.zero_le _⟩ rfl hl.1 rfl (Nat.le_of_ble_eq_true rfl) dX7_value_37 (fun H locs G => ?_)
        refine lv_goto (tgt := 51) C.1 C.2.1 dX7_value_40 (by decide) ?_
        exact r_xret C hr G hf dX7_value_51 ⟨Nat.zero_le _, Nat.zero_le _⟩
    · replace hf := ifp c4 hf
      exact rX7_value_0_18 C hlx hno X hr S3 _ _ _ _ hf G (lv_sub hl [] rfl)
set_option maxRecDepth 100000 in
set_option maxHeartbeats 4000000 in
theorem mX0_most_13 (l : Launch) (D : va_G) (a : Nat → Nat) (cI cJ : ClassId) (tk : Nat) (tf : Nat → Int32) (S : St) (x : Int32 × St) (hf : fX0_most_13 S = some x) : Mi l D (wE a cI cJ) a 25 cI cJ tk tf yX0_most cX0_most 1 (some .int) { frames := 0, cells := 0, slots := 0, locals := 0 } [.ref (a 13)] S x := by
  refine opn_i (by decide +kernel) (Nat.le_of_ble_eq_true rfl) (fun p e s m below meth c C hr G ls hl => ?_)
  replace hl : lv_has ls 1 [(0, .ref (a 13))] := hl
  unfold fX0_most_13 at hf
  refine lv_aload_n C.1 C.2.1 dX0_most_0 rfl (lv_at hl 0 rfl) ?_
  refine gE_13_7 C G k_175 dX0_most_1 ?_
  exact r_iret C hr G hf dX0_most_4
set_option maxRecDepth 100000 in
set_option maxHeartbeats 4000000 in
theorem mX7_record_0 (l : Launch) (D : va_G) (a : Nat → Nat) (cI cJ : ClassId) (tk : Nat) (tf : Nat → Int32) (p1 : Int32) (S : St) (x : Option Int32 × St) (hf : fX7_record_0 p1 S = some x) (hlx : l.stackTraces = false) : Mx l D (wE a cI cJ) a 25 cI cJ tk tf 138 "no such what" yX7_record cX7_record 2 (some .int) { frames := 6, cells := 1, slots := 6, locals := 82 } [.ref (a 0), .int p1] S x := by
  refine opn_x (by decide +kernel) (Nat.le_of_ble_eq_true rfl) (fun p e s m below meth c C X hno hr G ls hl => ?_)
  replace hl : lv_has ls 2 [(0, .ref (a 0)), (1, .int p1)] := hl
  unfold fX7_record_0 at hf
  refine lv_aload_n C.1 C.2.1 dX7_record_0 rfl (lv_at hl 0 rfl) ?_
  refine gE_0_6 C G k_227 dX7_record_1 ?_
  refine lv_iload_n C.1 C.2.1 dX7_record_4 rfl (lv_at hl 1 rfl) ?_
  obtain ⟨r1, S1, eS1, hf⟩ := bnd_e hf
  refine r_cali (As := [.int p1]) (na := 1) C adE G (mX5_has_20 l D a cI cJ tk tf p1 S _ eS1) k_478 k_479 k_480 k_67 k_481 (q0 := 20) rfl (ci := 5) rfl (by decide +kernel) ⟨Nat.le_of_ble_eq_true rfl, Nat.le_of_ble_eq_true rfl⟩ rfl rfl ⟨Nat.zero_le _, Nat.zero_le _⟩ rfl hl.1 rfl (Nat.le_of_ble_eq_true rfl) dX7_record_5 (fun H locs G => ?_)
  refine lv_if_eq (tgt := 20) C.1 C.2.1 dX7_record_8 (by decide) (fun c2 => ?_) (fun c2 => ?_)
  · replace hf := ifp c2 hf
    refine lv_iload_n C.1 C.2.1 dX7_record_20 rfl (lv_at hl 1 rfl) ?_
    by_cases c3 : p1 = (6 : Int32)
    · replace hf := ifp c3 hf
      refine lv_tableIn (tgt := 48) C.1 C.2.1 dX7_record_21 (by rw [c3]; decide) (by rw [c3]; decide) (by rw [c3]; rfl) (by decide) ?_
      refine lv_aload_n C.1 C.2.1 dX7_record_48 rfl (lv_at hl 0 rfl) ?_
      refine gE_0_9 C G k_230 dX7_record_49 ?_
      exact r_xret C hr G hf dX7_record_52 ⟨Nat.zero_le _, Nat.zero_le _⟩
    · replace hf := ifq c3 hf
      by_cases c4 : p1 = (7 : Int32)
      · replace hf := ifp c4 hf
        refine lv_tableIn (tgt := 53) C.1 C.2.1 dX7_record_21 (by rw [c4]; decide) (by rw [c4]; decide) (by rw [c4]; rfl) (by decide) ?_
        refine lv_aload_n C.1 C.2.1 dX7_record_53 rfl (lv_at hl 0 rfl) ?_
        refine gE_0_5 C G k_226 dX7_record_54 ?_
        obtain ⟨r5, S5, eS5, hf⟩ := bnd_e hf
        refine r_cali (As := []) (na := 0) C adE G (mX0_most_13 l D a cI cJ tk tf S1 _ eS5) k_707 k_708 k_709 k_66 k_710 (q0 := 13) rfl (ci := 0) rfl (by decide +kernel) ⟨Nat.le_of_ble_eq_true rfl, Nat.le_of_ble_eq_true rfl⟩ rfl rfl ⟨Nat.zero_le _, Nat.zero_le _⟩ rfl hl.1 rfl (Nat.le_of_ble_eq_true rfl) dX7_record_57 (fun H locs G => ?_)
        exact r_xret C hr G hf dX7_record_60 ⟨Nat.zero_le _, Nat.zero_le _⟩
      · replace hf := ifq c4 hf
        by_cases c6 : p1 = (8 : Int32)
        · replace hf := ifp c6 hf
          refine lv_tableIn (tgt := 61) C.1 C.2.1 dX7_record_21 (by rw [c6]; decide) (by rw [c6]; decide) (by rw [c6]; rfl) (by decide) ?_
          refine lv_aload_n C.1 C.2.1 dX7_record_61 rfl (lv_at hl 0 rfl) ?_
          refine gE_0_10 C G k_231 dX7_record_62 ?_
          exact r_xret C hr G hf dX7_record_65 ⟨Nat.zero_le _, Nat.zero_le _⟩
        · replace hf := ifq c6 hf
          have nc3 : (p1).toInt ≠ 6 := nti c3
          have nc4 : (p1).toInt ≠ 7 := nti c4
          have nc6 : (p1).toInt ≠ 8 := nti c6
          refine lv_tableOut (tgt := 66) C.1 C.2.1 dX7_record_21 (by omega) (by decide) ?_
          exact r_thr hlx C hno X G hf hl.1 dX7_record_66 dX7_record_69 dX7_record_70 dX7_record_72 dX7_record_75 (Nat.le_of_ble_eq_true rfl) (Nat.le_of_ble_eq_true rfl) (Nat.le_of_ble_eq_true rfl) (Nat.le_of_ble_eq_true rfl) ⟨rfl, rfl⟩
  · replace hf := ifq c2 hf
    refine lv_aload_n C.1 C.2.1 dX7_record_11 rfl (lv_at hl 0 rfl) ?_
    refine gE_0_6 C G k_227 dX7_record_12 ?_
    refine lv_iload_n C.1 C.2.1 dX7_record_15 rfl (lv_at hl 1 rfl) ?_
    obtain ⟨r7, S7, eS7, hf⟩ := bnd_e hf
    refine r_cali (As := [.int p1]) (na := 1) C adE G (mX5_told_20 l D a cI cJ tk tf p1 S1 _ eS7) k_482 k_483 k_484 k_67 k_485 (q0 := 20) rfl (ci := 5) rfl (by decide +kernel) ⟨Nat.le_of_ble_eq_true rfl, Nat.le_of_ble_eq_true rfl⟩ rfl rfl ⟨Nat.zero_le _, Nat.zero_le _⟩ rfl hl.1 rfl (Nat.le_of_ble_eq_true rfl) dX7_record_16 (fun H locs G => ?_)
    exact r_xret C hr G hf dX7_record_19 ⟨Nat.zero_le _, Nat.zero_le _⟩
set_option maxRecDepth 100000 in
set_option maxHeartbeats 4000000 in
theorem mX5_pile_20 (l : Launch) (D : va_G) (a : Nat → Nat) (cI cJ : ClassId) (tk : Nat) (tf : Nat → Int32) (S : St) (x : Int32 × St) (hf : fX5_pile_20 S = some x) : Mr (a 21) l D (wE a cI cJ) a 25 cI cJ tk tf yX5_pile cX5_pile 1 (some (.object "ErrorNames$Pile")) { frames := 0, cells := 0, slots := 0, locals := 0 } [.ref (a 20)] S x := by
  refine opn_r (by decide +kernel) (Nat.le_of_ble_eq_true rfl) (fun p e s m below meth c C hr G ls hl => ?_)
  replace hl : lv_has ls 1 [(0, .ref (a 20))] := hl
  unfold fX5_pile_20 at hf
  refine lv_aload_n C.1 C.2.1 dX5_pile_0 rfl (lv_at hl 0 rfl) ?_
  refine gE_20_0 C G k_202 dX5_pile_1 ?_
  exact r_aret C hr G hf dX5_pile_4
set_option maxRecDepth 100000 in
set_option maxHeartbeats 4000000 in
theorem rX2_has_21_16 {p : Program} {l : Launch} {e : Env} {s : State} {m : MethodId} {args : Array Value} {below : List Frame} {meth : Method} {c : Code} {D : va_G} {a : Nat → Nat} {cI cJ : ClassId} {tk : Nat} {tf : Nat → Int32} (C : Cx p s m args meth c RX2 cX2_has 2 D cI cJ tk tf (AR a 25 s.heap.size)) (hr : meth.sig.returnType = (some .boolean)) : ∀ (S : St) (x : Int32 × St) (H : Heap) (locs : List Loc) (ls : Array Slot), fX2_has_21_16 S = some x → Wd D (wE a cI cJ) (AR a 25 s.heap.size) s S H locs → lv_has ls 2 [] → W p l e { frames := 0, cells := 0, slots := 0, locals := 0 } s m args below meth c H locs 0 0 (MQ below (Qi D (wE a cI cJ) (AR a 25 s.heap.size) x) args s 0 0 (AR a 25 s.heap.size)) (F0 m 16 ls []) := by
  intro S x H locs ls hf G hl
  unfold fX2_has_21_16 at hf
  refine lv_iconst (v := 0) C.1 C.2.1 dX2_has_16 (by decide) ?_
  exact r_zret C hr (Or.inl rfl) G hf dX2_has_17
set_option maxRecDepth 100000 in
set_option maxHeartbeats 4000000 in
theorem mX2_has_21 (l : Launch) (D : va_G) (a : Nat → Nat) (cI cJ : ClassId) (tk : Nat) (tf : Nat → Int32) (p1 : Int32) (S : St) (x : Int32 × St) (hf : fX2_has_21 p1 S = some x) : Mi l D (wE a cI cJ) a 25 cI cJ tk tf yX2_has cX2_has 2 (some .boolean) { frames := 0, cells := 0, slots := 0, locals := 0 } [.ref (a 21), .int p1] S x := by
  refine opn_i (by decide +kernel) (Nat.le_of_ble_eq_true rfl) (fun p e s m below meth c C hr G ls hl => ?_)
  replace hl : lv_has ls 2 [(0, .ref (a 21)), (1, .int p1)] := hl
  unfold fX2_has_21 at hf
  refine lv_iload_n C.1 C.2.1 dX2_has_0 rfl (lv_at hl 1 rfl) ?_
  refine lv_if_lt (tgt := 16) C.1 C.2.1 dX2_has_1 (by decide) (fun c1 => ?_) (fun c1 => ?_)
  · replace hf := ifp c1 hf
    exact rX2_has_21_16 C hr S _ _ _ _ hf G (lv_sub hl [] rfl)
  · replace hf := ifq c1 hf
    refine lv_iload_n C.1 C.2.1 dX2_has_4 rfl (lv_at hl 1 rfl) ?_
    refine lv_aload_n C.1 C.2.1 dX2_has_5 rfl (lv_at hl 0 rfl) ?_
    refine gE_21_2 C G k_112 dX2_has_6 ?_
    refine lv_icmp_ge (tgt := 16) C.1 C.2.1 dX2_has_9 (by decide) (fun c2 => ?_) (fun c2 => ?_)
    · replace hf := ifp c2 hf
      exact rX2_has_21_16 C hr S _ _ _ _ hf G (lv_sub hl [] rfl)
    · replace hf := ifq c2 hf
      refine lv_iconst (v := 1) C.1 C.2.1 dX2_has_12 (by decide) ?_
      refine lv_goto (tgt := 17) C.1 C.2.1 dX2_has_13 (by decide) ?_
      exact r_zret C hr (Or.inr rfl) G hf dX2_has_17
set_option maxRecDepth 100000 in
set_option maxHeartbeats 4000000 in
theorem rX2_kindAt_21_21 {p : Program} {l : Launch} {e : Env} {s : State} {m : MethodId} {args : Array Value} {below : List Frame} {meth : Method} {c : Code} {D : va_G} {a : Nat → Nat} {cI cJ : ClassId} {tk : Nat} {tf : Nat → Int32} (C : Cx p s m args meth c RX2 cX2_kindAt 2 D cI cJ tk tf (AR a 25 s.heap.size)) (hr : meth.sig.returnType = (some .int)) : ∀ (S : St) (x : Int32 × St) (H : Heap) (locs : List Loc) (ls : Array Slot), fX2_kindAt_21_21 S = some x → Wd D (wE a cI cJ) (AR a 25 s.heap.size) s S H locs → lv_has ls 2 [] → W p l e { frames := 0, cells := 0, slots := 0, locals := 0 } s m args below meth c H locs 0 0 (MQ below (Qi D (wE a cI cJ) (AR a 25 s.heap.size) x) args s 0 0 (AR a 25 s.heap.size)) (F0 m 21 ls []) := by
  intro S x H locs ls hf G hl
  unfold fX2_kindAt_21_21 at hf
  refine lv_iconst (v := (-1)) C.1 C.2.1 dX2_kindAt_21 (by decide) ?_
  exact r_iret C hr G hf dX2_kindAt_22
set_option maxRecDepth 100000 in
set_option maxHeartbeats 4000000 in
theorem mX2_kindAt_21 (l : Launch) (D : va_G) (a : Nat → Nat) (cI cJ : ClassId) (tk : Nat) (tf : Nat → Int32) (p1 : Int32) (S : St) (x : Int32 × St) (hf : fX2_kindAt_21 p1 S = some x) : Mi l D (wE a cI cJ) a 25 cI cJ tk tf yX2_kindAt cX2_kindAt 2 (some .int) { frames := 0, cells := 0, slots := 0, locals := 0 } [.ref (a 21), .int p1] S x := by
  refine opn_i (by decide +kernel) (Nat.le_of_ble_eq_true rfl) (fun p e s m below meth c C hr G ls hl => ?_)
  replace hl : lv_has ls 2 [(0, .ref (a 21)), (1, .int p1)] := hl
  unfold fX2_kindAt_21 at hf
  refine lv_iload_n C.1 C.2.1 dX2_kindAt_0 rfl (lv_at hl 1 rfl) ?_
  refine lv_if_lt (tgt := 21) C.1 C.2.1 dX2_kindAt_1 (by decide) (fun c1 => ?_) (fun c1 => ?_)
  · replace hf := ifp c1 hf
    exact rX2_kindAt_21_21 C hr S _ _ _ _ hf G (lv_sub hl [] rfl)
  · replace hf := ifq c1 hf
    refine lv_iload_n C.1 C.2.1 dX2_kindAt_4 rfl (lv_at hl 1 rfl) ?_
    refine lv_aload_n C.1 C.2.1 dX2_kindAt_5 rfl (lv_at hl 0 rfl) ?_
    refine gE_21_2 C G k_112 dX2_kindAt_6 ?_
    refine lv_icmp_ge (tgt := 21) C.1 C.2.1 dX2_kindAt_9 (by decide) (fun c2 => ?_) (fun c2 => ?_)
    · replace hf := ifp c2 hf
      exact rX2_kindAt_21_21 C hr S _ _ _ _ hf G (lv_sub hl [] rfl)
    · replace hf := ifq c2 hf
      refine lv_aload_n C.1 C.2.1 dX2_kindAt_12 rfl (lv_at hl 0 rfl) ?_
      refine gE_21_0 C G k_110 dX2_kindAt_13 ?_
      refine lv_iload_n C.1 C.2.1 dX2_kindAt_16 rfl (lv_at hl 1 rfl) ?_
      obtain ⟨hi3, hf⟩ := ifn hf
      refine aE_22 C G hi3 dX2_kindAt_17 ?_
      refine lv_goto (tgt := 22) C.1 C.2.1 dX2_kindAt_18 (by decide) ?_
      exact r_iret C hr G hf dX2_kindAt_22
set_option maxRecDepth 100000 in
set_option maxHeartbeats 4000000 in
theorem rX2_numberAt_21_21 {p : Program} {l : Launch} {e : Env} {s : State} {m : MethodId} {args : Array Value} {below : List Frame} {meth : Method} {c : Code} {D : va_G} {a : Nat → Nat} {cI cJ : ClassId} {tk : Nat} {tf : Nat → Int32} (C : Cx p s m args meth c RX2 cX2_numberAt 2 D cI cJ tk tf (AR a 25 s.heap.size)) (hr : meth.sig.returnType = (some .int)) : ∀ (S : St) (x : Int32 × St) (H : Heap) (locs : List Loc) (ls : Array Slot), fX2_numberAt_21_21 S = some x → Wd D (wE a cI cJ) (AR a 25 s.heap.size) s S H locs → lv_has ls 2 [] → W p l e { frames := 0, cells := 0, slots := 0, locals := 0 } s m args below meth c H locs 0 0 (MQ below (Qi D (wE a cI cJ) (AR a 25 s.heap.size) x) args s 0 0 (AR a 25 s.heap.size)) (F0 m 21 ls []) := by
  intro S x H locs ls hf G hl
  unfold fX2_numberAt_21_21 at hf
  refine lv_iconst (v := 0) C.1 C.2.1 dX2_numberAt_21 (by decide) ?_
  exact r_iret C hr G hf dX2_numberAt_22
set_option maxRecDepth 100000 in
set_option maxHeartbeats 4000000 in
theorem mX2_numberAt_21 (l : Launch) (D : va_G) (a : Nat → Nat) (cI cJ : ClassId) (tk : Nat) (tf : Nat → Int32) (p1 : Int32) (S : St) (x : Int32 × St) (hf : fX2_numberAt_21 p1 S = some x) : Mi l D (wE a cI cJ) a 25 cI cJ tk tf yX2_numberAt cX2_numberAt 2 (some .int) { frames := 0, cells := 0, slots := 0, locals := 0 } [.ref (a 21), .int p1] S x := by
  refine opn_i (by decide +kernel) (Nat.le_of_ble_eq_true rfl) (fun p e s m below meth c C hr G ls hl => ?_)
  replace hl : lv_has ls 2 [(0, .ref (a 21)), (1, .int p1)] := hl
  unfold fX2_numberAt_21 at hf
  refine lv_iload_n C.1 C.2.1 dX2_numberAt_0 rfl (lv_at hl 1 rfl) ?_
  refine lv_if_lt (tgt := 21) C.1 C.2.1 dX2_numberAt_1 (by decide) (fun c1 => ?_) (fun c1 => ?_)
  · replace hf := ifp c1 hf
    exact rX2_numberAt_21_21 C hr S _ _ _ _ hf G (lv_sub hl [] rfl)
  · replace hf := ifq c1 hf
    refine lv_iload_n C.1 C.2.1 dX2_numberAt_4 rfl (lv_at hl 1 rfl) ?_
    refine lv_aload_n C.1 C.2.1 dX2_numberAt_5 rfl (lv_at hl 0 rfl) ?_
    refine gE_21_2 C G k_112 dX2_numberAt_6 ?_
    refine lv_icmp_ge (tgt := 21) C.1 C.2.1 dX2_numberAt_9 (by decide) (fun c2 => ?_) (fun c2 => ?_)
    · replace hf := ifp c2 hf
      exact rX2_numberAt_21_21 C hr S _ _ _ _ hf G (lv_sub hl [] rfl)
    · replace hf := ifq c2 hf
      refine lv_aload_n C.1 C.2.1 dX2_numberAt_12 rfl (lv_at hl 0 rfl) ?_
      refine gE_21_1 C G k_111 dX2_numberAt_13 ?_
      refine lv_iload_n C.1 C.2.1 dX2_numberAt_16 rfl (lv_at hl 1 rfl) ?_
      obtain ⟨hi3, hf⟩ := ifn hf
      refine aE_23 C G hi3 dX2_numberAt_17 ?_
      refine lv_goto (tgt := 22) C.1 C.2.1 dX2_numberAt_18 (by decide) ?_
      exact r_iret C hr G hf dX2_numberAt_22
set_option maxRecDepth 100000 in
set_option maxHeartbeats 4000000 in
theorem rX7_kept_0_21 {p : Program} {l : Launch} {e : Env} {s : State} {m : MethodId} {args : Array Value} {below : List Frame} {meth : Method} {c : Code} {D : va_G} {a : Nat → Nat} {cI cJ : ClassId} {tk : Nat} {tf : Nat → Int32} (C : Cx p s m args meth c RX7 cX7_kept 3 D cI cJ tk tf (AR a 25 s.heap.size)) (hlx : l.stackTraces = false) (hno : ∀ z ∈ c.exceptionTable.toList, False) (X : TX 141 "no such place of the record's pile, or what" (AR a 25 s.heap.size) s) (hr : meth.sig.returnType = (some .int)) : ∀ (S : St) (x : Option Int32 × St) (H : Heap) (locs : List Loc) (ls : Array Slot), fX7_kept_0_21 S = some x → Wd D (wE a cI cJ) (AR a 25 s.heap.size) s S H locs → lv_has ls 3 [] → W p l e { frames := 6, cells := 1, slots := 6, locals := 82 } s m args below meth c H locs 0 0 (vx_MQ below (Qo D (wE a cI cJ) (AR a 25 s.heap.size) x) (Xo D (wE a cI cJ) (AR a 25 s.heap.size) x) args s 1 6 (AR a 25 s.heap.size)) (F0 m 21 ls []) := by
  intro S x H locs ls hf G hl
  unfold fX7_kept_0_21 at hf
  exact r_thr hlx C hno X G hf hl.1 dX7_kept_21 dX7_kept_24 dX7_kept_25 dX7_kept_27 dX7_kept_30 (Nat.le_of_ble_eq_true rfl) (Nat.le_of_ble_eq_true rfl) (Nat.le_of_ble_eq_true rfl) (Nat.le_of_ble_eq_true rfl) ⟨rfl, rfl⟩
set_option maxRecDepth 100000 in
set_option maxHeartbeats 4000000 in
theorem mX7_kept_0 (l : Launch) (D : va_G) (a : Nat → Nat) (cI cJ : ClassId) (tk : Nat) (tf : Nat → Int32) (p1 : Int32) (p2 : Int32) (S : St) (x : Option Int32 × St) (hf : fX7_kept_0 p1 p2 S = some x) (hlx : l.stackTraces = false) : Mx l D (wE a cI cJ) a 25 cI cJ tk tf 141 "no such place of the record's pile, or what" yX7_kept cX7_kept 3 (some .int) { frames := 6, cells := 1, slots := 6, locals := 82 } [.ref (a 0), .int p1, .int p2] S x := by
  refine opn_x (by decide +kernel) (Nat.le_of_ble_eq_true rfl) (fun p e s m below meth c C X hno hr G ls hl => ?_)
  replace hl : lv_has ls 3 [(0, .ref (a 0)), (1, .int p1), (2, .int p2)] := hl
  unfold fX7_kept_0 at hf
  refine lv_aload_n C.1 C.2.1 dX7_kept_0 rfl (lv_at hl 0 rfl) ?_
  refine gE_0_6 C G k_227 dX7_kept_1 ?_
  obtain ⟨r1, S1, eS1, hf⟩ := bnd_e hf
  refine r_calr (As := []) (na := 0) C adE G (mX5_pile_20 l D a cI cJ tk tf S _ eS1) k_719 k_720 k_721 k_67 k_722 (q0 := 20) rfl (ci := 5) rfl (by decide +kernel) ⟨Nat.le_of_ble_eq_true rfl, Nat.le_of_ble_eq_true rfl⟩ rfl rfl ⟨Nat.zero_le _, Nat.zero_le _⟩ rfl hl.1 rfl (Nat.le_of_ble_eq_true rfl) dX7_kept_4 (fun H locs G => ?_)
  refine lv_iload_n C.1 C.2.1 dX7_kept_7 rfl (lv_at hl 1 rfl) ?_
  obtain ⟨r2, S2, eS2, hf⟩ := bnd_e hf
  refine r_cali (As := [.int p1]) (na := 1) C adE G (mX2_has_21 l D a cI cJ tk tf p1 S1 _ eS2) k_619 k_620 k_621 k_62 k_622 (q0 := 21) rfl (ci := 2) rfl (by decide +kernel) ⟨Nat.le_of_ble_eq_true rfl, Nat.le_of_ble_eq_true rfl⟩ rfl rfl ⟨Nat.zero_le _, Nat.zero_le _⟩ rfl hl.1 rfl (Nat.le_of_ble_eq_true rfl) dX7_kept_8 (fun H locs G => ?_)
  refine lv_if_eq (tgt := 21) C.1 C.2.1 dX7_kept_11 (by decide) (fun c3 => ?_) (fun c3 => ?_)
  · replace hf := ifp c3 hf
    exact rX7_kept_0_21 C hlx hno X hr S2 _ _ _ _ hf G (lv_sub hl [] rfl)
  · replace hf := ifq c3 hf
    refine lv_iload_n C.1 C.2.1 dX7_kept_14 rfl (lv_at hl 2 rfl) ?_
    obtain ⟨r4, S4, eS4, hf⟩ := bnd_e hf
    refine r_cals (As := [.int p2]) (na := 1) C adE G (mX7_isKindOrNumber l D a cI cJ tk tf p2 S2 _ eS4) k_623 k_624 k_59 k_625 (by decide +kernel) ⟨Nat.le_of_ble_eq_true rfl, Nat.le_of_ble_eq_true rfl⟩ rfl rfl ⟨Nat.zero_le _, Nat.zero_le _⟩ rfl hl.1 rfl (Nat.le_of_ble_eq_true rfl) dX7_kept_15 (fun H locs G => ?_)
    refine lv_if_ne (tgt := 31) C.1 C.2.1 dX7_kept_18 (by decide) (fun c5 => ?_) (fun c5 => ?_)
    · replace hf := ifq c5 hf
      refine lv_iload_n C.1 C.2.1 dX7_kept_31 rfl (lv_at hl 2 rfl) ?_
      refine lv_if_ne (tgt := 49) C.1 C.2.1 dX7_kept_32 (by decide) (fun c6 => ?_) (fun c6 => ?_)
      · replace hf := ifq c6 hf
        refine lv_aload_n C.1 C.2.1 dX7_kept_49 rfl (lv_at hl 0 rfl) ?_
        refine gE_0_6 C G k_227 dX7_kept_50 ?_
        obtain ⟨r9, S9, eS9, hf⟩ := bnd_e hf
        refine r_calr (As := []) (na := 0) C adE G (mX5_pile_20 l D a cI cJ tk tf S4 _ eS9) k_719 k_720 k_721 k_67 k_722 (q0 := 20) rfl (ci := 5) rfl (by decide +kernel) ⟨Nat.le_of_ble_eq_true rfl, Nat.le_of_ble_eq_true rfl⟩ rfl rfl ⟨Nat.zero_le _, Nat.zero_le _⟩ rfl hl.1 rfl (Nat.le_of_ble_eq_true rfl) dX7_kept_53 (fun H locs G => ?_)
        refine lv_iload_n C.1 C.2.1 dX7_kept_56 rfl (lv_at hl 1 rfl) ?_
        obtain ⟨r10, S10, eS10, hf⟩ := bnd_e hf
        refine r_cali (As := [.int p1]) (na := 1) C adE G (mX2_numberAt_21 l D a cI cJ tk tf p1 S9 _ eS10) k_696 k_697 k_698 k_62 k_699 (q0 := 21) rfl (ci := 2) rfl (by decide +kernel) ⟨Nat.le_of_ble_eq_true rfl, Nat.le_of_ble_eq_true rfl⟩ rfl rfl ⟨Nat.zero_le _, Nat.zero_le _⟩ rfl hl.1 rfl (Nat.le_of_ble_eq_true rfl) dX7_kept_57 (fun H locs G => ?_)
        exact r_xret C hr G hf dX7_kept_60 ⟨Nat.zero_le _, Nat.zero_le _⟩
      · replace hf := ifp c6 hf
        refine lv_aload_n C.1 C.2.1 dX7_kept_35 rfl (lv_at hl 0 rfl) ?_
        refine gE_0_6 C G k_227 dX7_kept_36 ?_
        obtain ⟨r7, S7, eS7, hf⟩ := bnd_e hf
        refine r_calr (As := []) (na := 0) C adE G (mX5_pile_20 l D a cI cJ tk tf S4 _ eS7) k_719 k_720 k_721 k_67 k_722 (q0 := 20) rfl (ci := 5) rfl (by decide +kernel) ⟨Nat.le_of_ble_eq_true rfl, Nat.le_of_ble_eq_true rfl⟩ rfl rfl ⟨Nat.zero_le _, Nat.zero_le _⟩ rfl hl.1 rfl (Nat.le_of_ble_eq_true rfl) dX7_kept_39 (fun H locs G => ?_)
        refine lv_iload_n C.1 C.2.1 dX7_kept_42 rfl (lv_at hl 1 rfl) ?_
        obtain ⟨r8, S8, eS8, hf⟩ := bnd_e hf
        refine r_cali (As := [.int p1]) (na := 1) C adE G (mX2_kindAt_21 l D a cI cJ tk tf p1 S7 _ eS8) k_692 k_693 k_694 k_62 k_695 (q0 := 21) rfl (ci := 2) rfl (by decide +kernel) ⟨Nat.le_of_ble_eq_true rfl, Nat.le_of_ble_eq_true rfl⟩ rfl rfl ⟨Nat.zero_le _, Nat.zero_le _⟩ rfl hl.1 rfl (Nat.le_of_ble_eq_true rfl) dX7_kept_43 (fun H locs G => ?_)
        refine lv_goto (tgt := 60) C.1 C.2.1 dX7_kept_46 (by decide) ?_
        exact r_xret C hr G hf dX7_kept_60 ⟨Nat.zero_le _, Nat.zero_le _⟩
    · replace hf := ifp c5 hf
      exact rX7_kept_0_21 C hlx hno X hr S4 _ _ _ _ hf G (lv_sub hl [] rfl)
set_option maxRecDepth 100000 in
set_option maxHeartbeats 4000000 in
theorem rX1_has_11_15 {p : Program} {l : Launch} {e : Env} {s : State} {m : MethodId} {args : Array Value} {below : List Frame} {meth : Method} {c : Code} {D : va_G} {a : Nat → Nat} {cI cJ : ClassId} {tk : Nat} {tf : Nat → Int32} (C : Cx p s m args meth c RX1 cX1_has 2 D cI cJ tk tf (AR a 25 s.heap.size)) (hr : meth.sig.returnType = (some .boolean)) : ∀ (S : St) (x : Int32 × St) (H : Heap) (locs : List Loc) (ls : Array Slot), fX1_has_11_15 S = some x → Wd D (wE a cI cJ) (AR a 25 s.heap.size) s S H locs → lv_has ls 2 [] → W p l e { frames := 0, cells := 0, slots := 0, locals := 0 } s m args below meth c H locs 0 0 (MQ below (Qi D (wE a cI cJ) (AR a 25 s.heap.size) x) args s 0 0 (AR a 25 s.heap.size)) (F0 m 15 ls []) := by
  intro S x H locs ls hf G hl
  unfold fX1_has_11_15 at hf
  refine lv_iconst (v := 0) C.1 C.2.1 dX1_has_15 (by decide) ?_
  exact r_zret C hr (Or.inl rfl) G hf dX1_has_16
set_option maxRecDepth 100000 in
set_option maxHeartbeats 4000000 in
theorem mX1_has_11 (l : Launch) (D : va_G) (a : Nat → Nat) (cI cJ : ClassId) (tk : Nat) (tf : Nat → Int32) (p1 : Int32) (S : St) (x : Int32 × St) (hf : fX1_has_11 p1 S = some x) : Mi l D (wE a cI cJ) a 25 cI cJ tk tf yX1_has cX1_has 2 (some .boolean) { frames := 0, cells := 0, slots := 0, locals := 0 } [.ref (a 11), .int p1] S x := by
  refine opn_i (by decide +kernel) (Nat.le_of_ble_eq_true rfl) (fun p e s m below meth c C hr G ls hl => ?_)
  replace hl : lv_has ls 2 [(0, .ref (a 11)), (1, .int p1)] := hl
  unfold fX1_has_11 at hf
  refine lv_iload_n C.1 C.2.1 dX1_has_0 rfl (lv_at hl 1 rfl) ?_
  refine lv_iconst (v := 1) C.1 C.2.1 dX1_has_1 (by decide) ?_
  refine lv_icmp_lt (tgt := 15) C.1 C.2.1 dX1_has_2 (by decide) (fun c1 => ?_) (fun c1 => ?_)
  · replace hf := ifp c1 hf
    exact rX1_has_11_15 C hr S _ _ _ _ hf G (lv_sub hl [] rfl)
  · replace hf := ifq c1 hf
    refine lv_iload_n C.1 C.2.1 dX1_has_5 rfl (lv_at hl 1 rfl) ?_
    refine lv_bipush (v := 11) C.1 C.2.1 dX1_has_6 (by decide) ?_
    refine lv_icmp_gt (tgt := 15) C.1 C.2.1 dX1_has_8 (by decide) (fun c2 => ?_) (fun c2 => ?_)
    · replace hf := ifp c2 hf
      exact rX1_has_11_15 C hr S _ _ _ _ hf G (lv_sub hl [] rfl)
    · replace hf := ifq c2 hf
      refine lv_iconst (v := 1) C.1 C.2.1 dX1_has_11 (by decide) ?_
      refine lv_goto (tgt := 16) C.1 C.2.1 dX1_has_12 (by decide) ?_
      exact r_zret C hr (Or.inr rfl) G hf dX1_has_16
set_option maxRecDepth 100000 in
set_option maxHeartbeats 4000000 in
theorem mX7_handler_0 (l : Launch) (D : va_G) (a : Nat → Nat) (cI cJ : ClassId) (tk : Nat) (tf : Nat → Int32) (p1 : Int32) (S : St) (x : Option Int32 × St) (hf : fX7_handler_0 p1 S = some x) (hlx : l.stackTraces = false) : Mx l D (wE a cI cJ) a 25 cI cJ tk tf 144 "no such error" yX7_handler cX7_handler 2 (some .int) { frames := 6, cells := 1, slots := 6, locals := 82 } [.ref (a 0), .int p1] S x := by
  refine opn_x (by decide +kernel) (Nat.le_of_ble_eq_true rfl) (fun p e s m below meth c C X hno hr G ls hl => ?_)
  replace hl : lv_has ls 2 [(0, .ref (a 0)), (1, .int p1)] := hl
  unfold fX7_handler_0 at hf
  refine lv_aload_n C.1 C.2.1 dX7_handler_0 rfl (lv_at hl 0 rfl) ?_
  refine gE_0_4 C G k_225 dX7_handler_1 ?_
  refine lv_iload_n C.1 C.2.1 dX7_handler_4 rfl (lv_at hl 1 rfl) ?_
  obtain ⟨r1, S1, eS1, hf⟩ := bnd_e hf
  refine r_cali (As := [.int p1]) (na := 1) C adE G (mX1_has_11 l D a cI cJ tk tf p1 S _ eS1) k_731 k_732 k_733 k_65 k_734 (q0 := 11) rfl (ci := 1) rfl (by decide +kernel) ⟨Nat.le_of_ble_eq_true rfl, Nat.le_of_ble_eq_true rfl⟩ rfl rfl ⟨Nat.zero_le _, Nat.zero_le _⟩ rfl hl.1 rfl (Nat.le_of_ble_eq_true rfl) dX7_handler_5 (fun H locs G => ?_)
  refine lv_if_ne (tgt := 21) C.1 C.2.1 dX7_handler_8 (by decide) (fun c2 => ?_) (fun c2 => ?_)
  · replace hf := ifq c2 hf
    refine lv_aload_n C.1 C.2.1 dX7_handler_21 rfl (lv_at hl 0 rfl) ?_
    refine gE_0_4 C G k_225 dX7_handler_22 ?_
    refine lv_iload_n C.1 C.2.1 dX7_handler_25 rfl (lv_at hl 1 rfl) ?_
    obtain ⟨r3, S3, eS3, hf⟩ := bnd_e hf
    refine r_cali (As := [.int p1]) (na := 1) C adE G (mX1_of_11 l D a cI cJ tk tf p1 S1 _ eS3) k_554 k_555 k_556 k_65 k_557 (q0 := 11) rfl (ci := 1) rfl (by decide +kernel) ⟨Nat.le_of_ble_eq_true rfl, Nat.le_of_ble_eq_true rfl⟩ rfl rfl ⟨Nat.zero_le _, Nat.zero_le _⟩ rfl hl.1 rfl (Nat.le_of_ble_eq_true rfl) dX7_handler_26 (fun H locs G => ?_)
    exact r_xret C hr G hf dX7_handler_29 ⟨Nat.zero_le _, Nat.zero_le _⟩
  · replace hf := ifp c2 hf
    exact r_thr hlx C hno X G hf hl.1 dX7_handler_11 dX7_handler_14 dX7_handler_15 dX7_handler_17 dX7_handler_20 (Nat.le_of_ble_eq_true rfl) (Nat.le_of_ble_eq_true rfl) (Nat.le_of_ble_eq_true rfl) (Nat.le_of_ble_eq_true rfl) ⟨rfl, rfl⟩
set_option maxRecDepth 100000 in
set_option maxHeartbeats 4000000 in
theorem rX6_has_8_14 {p : Program} {l : Launch} {e : Env} {s : State} {m : MethodId} {args : Array Value} {below : List Frame} {meth : Method} {c : Code} {D : va_G} {a : Nat → Nat} {cI cJ : ClassId} {tk : Nat} {tf : Nat → Int32} (C : Cx p s m args meth c RX6 cX6_has 2 D cI cJ tk tf (AR a 25 s.heap.size)) (hr : meth.sig.returnType = (some .boolean)) : ∀ (S : St) (x : Int32 × St) (H : Heap) (locs : List Loc) (ls : Array Slot), fX6_has_8_14 S = some x → Wd D (wE a cI cJ) (AR a 25 s.heap.size) s S H locs → lv_has ls 2 [] → W p l e { frames := 0, cells := 0, slots := 0, locals := 0 } s m args below meth c H locs 0 0 (MQ below (Qi D (wE a cI cJ) (AR a 25 s.heap.size) x) args s 0 0 (AR a 25 s.heap.size)) (F0 m 14 ls []) := by
  intro S x H locs ls hf G hl
  unfold fX6_has_8_14 at hf
  refine lv_iconst (v := 0) C.1 C.2.1 dX6_has_14 (by decide) ?_
  exact r_zret C hr (Or.inl rfl) G hf dX6_has_15
set_option maxRecDepth 100000 in
set_option maxHeartbeats 4000000 in
theorem mX6_has_8 (l : Launch) (D : va_G) (a : Nat → Nat) (cI cJ : ClassId) (tk : Nat) (tf : Nat → Int32) (p1 : Int32) (S : St) (x : Int32 × St) (hf : fX6_has_8 p1 S = some x) : Mi l D (wE a cI cJ) a 25 cI cJ tk tf yX6_has cX6_has 2 (some .boolean) { frames := 0, cells := 0, slots := 0, locals := 0 } [.ref (a 8), .int p1] S x := by
  refine opn_i (by decide +kernel) (Nat.le_of_ble_eq_true rfl) (fun p e s m below meth c C hr G ls hl => ?_)
  replace hl : lv_has ls 2 [(0, .ref (a 8)), (1, .int p1)] := hl
  unfold fX6_has_8 at hf
  refine lv_iload_n C.1 C.2.1 dX6_has_0 rfl (lv_at hl 1 rfl) ?_
  refine lv_if_lt (tgt := 14) C.1 C.2.1 dX6_has_1 (by decide) (fun c1 => ?_) (fun c1 => ?_)
  · replace hf := ifp c1 hf
    exact rX6_has_8_14 C hr S _ _ _ _ hf G (lv_sub hl [] rfl)
  · replace hf := ifq c1 hf
    refine lv_iload_n C.1 C.2.1 dX6_has_4 rfl (lv_at hl 1 rfl) ?_
    refine lv_bipush (v := 40) C.1 C.2.1 dX6_has_5 (by decide) ?_
    refine lv_icmp_ge (tgt := 14) C.1 C.2.1 dX6_has_7 (by decide) (fun c2 => ?_) (fun c2 => ?_)
    · replace hf := ifp c2 hf
      exact rX6_has_8_14 C hr S _ _ _ _ hf G (lv_sub hl [] rfl)
    · replace hf := ifq c2 hf
      refine lv_iconst (v := 1) C.1 C.2.1 dX6_has_10 (by decide) ?_
      refine lv_goto (tgt := 15) C.1 C.2.1 dX6_has_11 (by decide) ?_
      exact r_zret C hr (Or.inr rfl) G hf dX6_has_15
set_option maxRecDepth 100000 in
set_option maxHeartbeats 4000000 in
theorem rX7_named_0_18 {p : Program} {l : Launch} {e : Env} {s : State} {m : MethodId} {args : Array Value} {below : List Frame} {meth : Method} {c : Code} {D : va_G} {a : Nat → Nat} {cI cJ : ClassId} {tk : Nat} {tf : Nat → Int32} (C : Cx p s m args meth c RX7 cX7_named 3 D cI cJ tk tf (AR a 25 s.heap.size)) (hlx : l.stackTraces = false) (hno : ∀ z ∈ c.exceptionTable.toList, False) (X : TX 152 "no such name, or what" (AR a 25 s.heap.size) s) (hr : meth.sig.returnType = (some .int)) : ∀ (S : St) (x : Option Int32 × St) (H : Heap) (locs : List Loc) (ls : Array Slot), fX7_named_0_18 S = some x → Wd D (wE a cI cJ) (AR a 25 s.heap.size) s S H locs → lv_has ls 3 [] → W p l e { frames := 6, cells := 1, slots := 6, locals := 82 } s m args below meth c H locs 0 0 (vx_MQ below (Qo D (wE a cI cJ) (AR a 25 s.heap.size) x) (Xo D (wE a cI cJ) (AR a 25 s.heap.size) x) args s 1 6 (AR a 25 s.heap.size)) (F0 m 18 ls []) := by
  intro S x H locs ls hf G hl
  unfold fX7_named_0_18 at hf
  exact r_thr hlx C hno X G hf hl.1 dX7_named_18 dX7_named_21 dX7_named_22 dX7_named_24 dX7_named_27 (Nat.le_of_ble_eq_true rfl) (Nat.le_of_ble_eq_true rfl) (Nat.le_of_ble_eq_true rfl) (Nat.le_of_ble_eq_true rfl) ⟨rfl, rfl⟩
set_option maxRecDepth 100000 in
set_option maxHeartbeats 4000000 in
theorem mX7_named_0 (l : Launch) (D : va_G) (a : Nat → Nat) (cI cJ : ClassId) (tk : Nat) (tf : Nat → Int32) (p1 : Int32) (p2 : Int32) (S : St) (x : Option Int32 × St) (hf : fX7_named_0 p1 p2 S = some x) (hlx : l.stackTraces = false) : Mx l D (wE a cI cJ) a 25 cI cJ tk tf 152 "no such name, or what" yX7_named cX7_named 3 (some .int) { frames := 6, cells := 1, slots := 6, locals := 82 } [.ref (a 0), .int p1, .int p2] S x := by
  refine opn_x (by decide +kernel) (Nat.le_of_ble_eq_true rfl) (fun p e s m below meth c C X hno hr G ls hl => ?_)
  replace hl : lv_has ls 3 [(0, .ref (a 0)), (1, .int p1), (2, .int p2)] := hl
  unfold fX7_named_0 at hf
  refine lv_aload_n C.1 C.2.1 dX7_named_0 rfl (lv_at hl 0 rfl) ?_
  refine gE_0_3 C G k_224 dX7_named_1 ?_
  refine lv_iload_n C.1 C.2.1 dX7_named_4 rfl (lv_at hl 1 rfl) ?_
  obtain ⟨r1, S1, eS1, hf⟩ := bnd_e hf
  refine r_cali (As := [.int p1]) (na := 1) C adE G (mX6_has_8 l D a cI cJ tk tf p1 S _ eS1) k_743 k_744 k_745 k_63 k_746 (q0 := 8) rfl (ci := 6) rfl (by decide +kernel) ⟨Nat.le_of_ble_eq_true rfl, Nat.le_of_ble_eq_true rfl⟩ rfl rfl ⟨Nat.zero_le _, Nat.zero_le _⟩ rfl hl.1 rfl (Nat.le_of_ble_eq_true rfl) dX7_named_5 (fun H locs G => ?_)
  refine lv_if_eq (tgt := 18) C.1 C.2.1 dX7_named_8 (by decide) (fun c2 => ?_) (fun c2 => ?_)
  · replace hf := ifp c2 hf
    exact rX7_named_0_18 C hlx hno X hr S1 _ _ _ _ hf G (lv_sub hl [] rfl)
  · replace hf := ifq c2 hf
    refine lv_iload_n C.1 C.2.1 dX7_named_11 rfl (lv_at hl 2 rfl) ?_
    obtain ⟨r3, S3, eS3, hf⟩ := bnd_e hf
    refine r_cals (As := [.int p2]) (na := 1) C adE G (mX7_isKindOrNumber l D a cI cJ tk tf p2 S1 _ eS3) k_623 k_624 k_59 k_625 (by decide +kernel) ⟨Nat.le_of_ble_eq_true rfl, Nat.le_of_ble_eq_true rfl⟩ rfl rfl ⟨Nat.zero_le _, Nat.zero_le _⟩ rfl hl.1 rfl (Nat.le_of_ble_eq_true rfl) dX7_named_12 (fun H locs G => ?_)
    refine lv_if_ne (tgt := 28) C.1 C.2.1 dX7_named_15 (by decide) (fun c4 => ?_) (fun c4 => ?_)
    · replace hf := ifq c4 hf
      refine lv_iload_n C.1 C.2.1 dX7_named_28 rfl (lv_at hl 2 rfl) ?_
      refine lv_if_ne (tgt := 43) C.1 C.2.1 dX7_named_29 (by decide) (fun c5 => ?_) (fun c5 => ?_)
      · replace hf := ifq c5 hf
        refine lv_aload_n C.1 C.2.1 dX7_named_43 rfl (lv_at hl 0 rfl) ?_
        refine gE_0_3 C G k_224 dX7_named_44 ?_
        refine lv_iload_n C.1 C.2.1 dX7_named_47 rfl (lv_at hl 1 rfl) ?_
        obtain ⟨r7, S7, eS7, hf⟩ := bnd_e hf
        refine r_cali (As := [.int p1]) (na := 1) C adE G (mX6_numberOf_8 l D a cI cJ tk tf p1 S3 _ eS7) k_395 k_396 k_397 k_63 k_398 (q0 := 8) rfl (ci := 6) rfl (by decide +kernel) ⟨Nat.le_of_ble_eq_true rfl, Nat.le_of_ble_eq_true rfl⟩ rfl rfl ⟨Nat.zero_le _, Nat.zero_le _⟩ rfl hl.1 rfl (Nat.le_of_ble_eq_true rfl) dX7_named_48 (fun H locs G => ?_)
        exact r_xret C hr G hf dX7_named_51 ⟨Nat.zero_le _, Nat.zero_le _⟩
      · replace hf := ifp c5 hf
        refine lv_aload_n C.1 C.2.1 dX7_named_32 rfl (lv_at hl 0 rfl) ?_
        refine gE_0_3 C G k_224 dX7_named_33 ?_
        refine lv_iload_n C.1 C.2.1 dX7_named_36 rfl (lv_at hl 1 rfl) ?_
        obtain ⟨r6, S6, eS6, hf⟩ := bnd_e hf
        refine r_cali (As := [.int p1]) (na := 1) C adE G (mX6_kindOf_8 l D a cI cJ tk tf p1 S3 _ eS6) k_391 k_392 k_393 k_63 k_394 (q0 := 8) rfl (ci := 6) rfl (by decide +kernel) ⟨Nat.le_of_ble_eq_true rfl, Nat.le_of_ble_eq_true rfl⟩ rfl rfl ⟨Nat.zero_le _, Nat.zero_le _⟩ rfl hl.1 rfl (Nat.le_of_ble_eq_true rfl) dX7_named_37 (fun H locs G => ?_)
        refine lv_goto (tgt := 51) C.1 C.2.1 dX7_named_40 (by decide) ?_
        exact r_xret C hr G hf dX7_named_51 ⟨Nat.zero_le _, Nat.zero_le _⟩
    · replace hf := ifp c4 hf
      exact rX7_named_0_18 C hlx hno X hr S3 _ _ _ _ hf G (lv_sub hl [] rfl)
