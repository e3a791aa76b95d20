theorem dX8_thrown_0 : decode cX8_thrown 0 = .ok (.aload_n 0, 1) := by decide +kernel
theorem dX8_thrown_1 : decode cX8_thrown 1 = .ok (.getfield 62, 3) := by decide +kernel
theorem dX8_thrown_4 : decode cX8_thrown 4 = .ok (.ireturn, 1) := by decide +kernel
theorem dX8_in_0 : decode cX8_in 0 = .ok (.iload_n 0, 1) := by decide +kernel
theorem dX8_in_1 : decode cX8_in 1 = .ok (.iload_n 1, 1) := by decide +kernel
theorem dX8_in_2 : decode cX8_in 2 = .ok (.if_icmp .lt 12, 3) := by decide +kernel
theorem dX8_in_5 : decode cX8_in 5 = .ok (.iload_n 0, 1) := by decide +kernel
theorem dX8_in_6 : decode cX8_in 6 = .ok (.iload_n 2, 1) := by decide +kernel
theorem dX8_in_7 : decode cX8_in 7 = .ok (.if_icmp .gt 7, 3) := by decide +kernel
theorem dX8_in_10 : decode cX8_in 10 = .ok (.iconst 1, 1) := by decide +kernel
theorem dX8_in_11 : decode cX8_in 11 = .ok (.goto 4, 3) := by decide +kernel
theorem dX8_in_14 : decode cX8_in 14 = .ok (.iconst 0, 1) := by decide +kernel
theorem dX8_in_15 : decode cX8_in 15 = .ok (.ireturn, 1) := by decide +kernel
theorem dX8_fits_0 : decode cX8_fits 0 = .ok (.iload_n 0, 1) := by decide +kernel
theorem dX8_fits_1 : decode cX8_fits 1 = .ok (.ifCond .eq 51, 3) := by decide +kernel
theorem dX8_fits_4 : decode cX8_fits 4 = .ok (.iload_n 1, 1) := by decide +kernel
theorem dX8_fits_5 : decode cX8_fits 5 = .ok (.iconst 0, 1) := by decide +kernel
theorem dX8_fits_6 : decode cX8_fits 6 = .ok (.iload_n 0, 1) := by decide +kernel
theorem dX8_fits_7 : decode cX8_fits 7 = .ok (.iconst 1, 1) := by decide +kernel
theorem dX8_fits_8 : decode cX8_fits 8 = .ok (.if_icmp .ne 7, 3) := by decide +kernel
theorem dX8_fits_11 : decode cX8_fits 11 = .ok (.iconst 1, 1) := by decide +kernel
theorem dX8_fits_12 : decode cX8_fits 12 = .ok (.goto 34, 3) := by decide +kernel
theorem dX8_fits_15 : decode cX8_fits 15 = .ok (.iload_n 0, 1) := by decide +kernel
theorem dX8_fits_16 : decode cX8_fits 16 = .ok (.iconst 2, 1) := by decide +kernel
theorem dX8_fits_17 : decode cX8_fits 17 = .ok (.if_icmp .ne 8, 3) := by decide +kernel
theorem dX8_fits_20 : decode cX8_fits 20 = .ok (.bipush 39, 2) := by decide +kernel
theorem dX8_fits_22 : decode cX8_fits 22 = .ok (.goto 24, 3) := by decide +kernel
theorem dX8_fits_25 : decode cX8_fits 25 = .ok (.iload_n 0, 1) := by decide +kernel
theorem dX8_fits_26 : decode cX8_fits 26 = .ok (.iconst 3, 1) := by decide +kernel
theorem dX8_fits_27 : decode cX8_fits 27 = .ok (.if_icmp .ne 7, 3) := by decide +kernel
theorem dX8_fits_30 : decode cX8_fits 30 = .ok (.iconst 0, 1) := by decide +kernel
theorem dX8_fits_31 : decode cX8_fits 31 = .ok (.goto 15, 3) := by decide +kernel
theorem dX8_fits_34 : decode cX8_fits 34 = .ok (.iload_n 0, 1) := by decide +kernel
theorem dX8_fits_35 : decode cX8_fits 35 = .ok (.iconst 4, 1) := by decide +kernel
theorem dX8_fits_36 : decode cX8_fits 36 = .ok (.if_icmp .ne 8, 3) := by decide +kernel
theorem dX8_fits_39 : decode cX8_fits 39 = .ok (.bipush 19, 2) := by decide +kernel
theorem dX8_fits_41 : decode cX8_fits 41 = .ok (.goto 5, 3) := by decide +kernel
theorem dX8_fits_44 : decode cX8_fits 44 = .ok (.bipush 27, 2) := by decide +kernel
theorem dX8_fits_46 : decode cX8_fits 46 = .ok (.invokestatic 88, 3) := by decide +kernel
theorem dX8_fits_49 : decode cX8_fits 49 = .ok (.ifCond .eq 7, 3) := by decide +kernel
theorem dX8_fits_52 : decode cX8_fits 52 = .ok (.iconst 1, 1) := by decide +kernel
theorem dX8_fits_53 : decode cX8_fits 53 = .ok (.goto 4, 3) := by decide +kernel
theorem dX8_fits_56 : decode cX8_fits 56 = .ok (.iconst 0, 1) := by decide +kernel
theorem dX8_fits_57 : decode cX8_fits 57 = .ok (.ireturn, 1) := by decide +kernel
theorem dX8_token_0 : decode cX8_token 0 = .ok (.aload_n 0, 1) := by decide +kernel
theorem dX8_token_1 : decode cX8_token 1 = .ok (.iconst 0, 1) := by decide +kernel
theorem dX8_token_2 : decode cX8_token 2 = .ok (.putfield 62, 3) := by decide +kernel
theorem dX8_token_5 : decode cX8_token 5 = .ok (.iload_n 1, 1) := by decide +kernel
theorem dX8_token_6 : decode cX8_token 6 = .ok (.iconst 0, 1) := by decide +kernel
theorem dX8_token_7 : decode cX8_token 7 = .ok (.bipush 19, 2) := by decide +kernel
theorem dX8_token_9 : decode cX8_token 9 = .ok (.invokestatic 88, 3) := by decide +kernel
theorem dX8_token_12 : decode cX8_token 12 = .ok (.ifCond .eq 12, 3) := by decide +kernel
theorem dX8_token_15 : decode cX8_token 15 = .ok (.iload_n 2, 1) := by decide +kernel
theorem dX8_token_16 : decode cX8_token 16 = .ok (.iconst 0, 1) := by decide +kernel
theorem dX8_token_17 : decode cX8_token 17 = .ok (.iconst 5, 1) := by decide +kernel
theorem dX8_token_18 : decode cX8_token 18 = .ok (.invokestatic 88, 3) := by decide +kernel
theorem dX8_token_21 : decode cX8_token 21 = .ok (.ifCond .ne 5, 3) := by decide +kernel
theorem dX8_token_24 : decode cX8_token 24 = .ok (.iconst (-1), 1) := by decide +kernel
theorem dX8_token_25 : decode cX8_token 25 = .ok (.ireturn, 1) := by decide +kernel
theorem dX8_token_26 : decode cX8_token 26 = .ok (.iload_n 2, 1) := by decide +kernel
theorem dX8_token_27 : decode cX8_token 27 = .ok (.iload_n 3, 1) := by decide +kernel
theorem dX8_token_28 : decode cX8_token 28 = .ok (.invokestatic 92, 3) := by decide +kernel
theorem dX8_token_31 : decode cX8_token 31 = .ok (.ifCond .ne 6, 3) := by decide +kernel
theorem dX8_token_34 : decode cX8_token 34 = .ok (.bipush (-2), 2) := by decide +kernel
theorem dX8_token_36 : decode cX8_token 36 = .ok (.ireturn, 1) := by decide +kernel
theorem dX8_token_37 : decode cX8_token 37 = .ok (.aload_n 0, 1) := by decide +kernel
theorem dX8_token_38 : decode cX8_token 38 = .ok (.getfield 16, 3) := by decide +kernel
theorem dX8_token_41 : decode cX8_token 41 = .ok (.iload_n 1, 1) := by decide +kernel
theorem dX8_token_42 : decode cX8_token 42 = .ok (.iaload, 1) := by decide +kernel
theorem dX8_token_43 : decode cX8_token 43 = .ok (.bipush 24, 2) := by decide +kernel
theorem dX8_token_45 : decode cX8_token 45 = .ok (.if_icmp .ne 6, 3) := by decide +kernel
theorem dX8_token_48 : decode cX8_token 48 = .ok (.bipush (-4), 2) := by decide +kernel
theorem dX8_token_50 : decode cX8_token 50 = .ok (.ireturn, 1) := by decide +kernel
theorem dX8_token_51 : decode cX8_token 51 = .ok (.bipush 24, 2) := by decide +kernel
theorem dX8_token_53 : decode cX8_token 53 = .ok (.iload_n 1, 1) := by decide +kernel
theorem dX8_token_54 : decode cX8_token 54 = .ok (.imul, 1) := by decide +kernel
theorem dX8_token_55 : decode cX8_token 55 = .ok (.aload_n 0, 1) := by decide +kernel
theorem dX8_token_56 : decode cX8_token 56 = .ok (.getfield 16, 3) := by decide +kernel
theorem dX8_token_59 : decode cX8_token 59 = .ok (.iload_n 1, 1) := by decide +kernel
theorem dX8_token_60 : decode cX8_token 60 = .ok (.iaload, 1) := by decide +kernel
theorem dX8_token_61 : decode cX8_token 61 = .ok (.iadd, 1) := by decide +kernel
theorem dX8_token_62 : decode cX8_token 62 = .ok (.istore 4, 2) := by decide +kernel
theorem dX8_token_64 : decode cX8_token 64 = .ok (.aload_n 0, 1) := by decide +kernel
theorem dX8_token_65 : decode cX8_token 65 = .ok (.getfield 7, 3) := by decide +kernel
theorem dX8_token_68 : decode cX8_token 68 = .ok (.iload 4, 2) := by decide +kernel
theorem dX8_token_70 : decode cX8_token 70 = .ok (.iload_n 2, 1) := by decide +kernel
theorem dX8_token_71 : decode cX8_token 71 = .ok (.iastore, 1) := by decide +kernel
theorem dX8_token_72 : decode cX8_token 72 = .ok (.aload_n 0, 1) := by decide +kernel
theorem dX8_token_73 : decode cX8_token 73 = .ok (.getfield 13, 3) := by decide +kernel
theorem dX8_token_76 : decode cX8_token 76 = .ok (.iload 4, 2) := by decide +kernel
theorem dX8_token_78 : decode cX8_token 78 = .ok (.iload_n 3, 1) := by decide +kernel
theorem dX8_token_79 : decode cX8_token 79 = .ok (.iastore, 1) := by decide +kernel
theorem dX8_token_80 : decode cX8_token 80 = .ok (.aload_n 0, 1) := by decide +kernel
theorem dX8_token_81 : decode cX8_token 81 = .ok (.getfield 16, 3) := by decide +kernel
theorem dX8_token_84 : decode cX8_token 84 = .ok (.iload_n 1, 1) := by decide +kernel
theorem dX8_token_85 : decode cX8_token 85 = .ok (.dup2, 1) := by decide +kernel
theorem dX8_token_86 : decode cX8_token 86 = .ok (.iaload, 1) := by decide +kernel
theorem dX8_token_87 : decode cX8_token 87 = .ok (.iconst 1, 1) := by decide +kernel
theorem dX8_token_88 : decode cX8_token 88 = .ok (.iadd, 1) := by decide +kernel
theorem dX8_token_89 : decode cX8_token 89 = .ok (.iastore, 1) := by decide +kernel
theorem dX8_token_90 : decode cX8_token 90 = .ok (.aload_n 0, 1) := by decide +kernel
theorem dX8_token_91 : decode cX8_token 91 = .ok (.getfield 16, 3) := by decide +kernel
theorem dX8_token_94 : decode cX8_token 94 = .ok (.iload_n 1, 1) := by decide +kernel
theorem dX8_token_95 : decode cX8_token 95 = .ok (.iaload, 1) := by decide +kernel
theorem dX8_token_96 : decode cX8_token 96 = .ok (.ireturn, 1) := by decide +kernel
theorem dX8_clear_0 : decode cX8_clear 0 = .ok (.aload_n 0, 1) := by decide +kernel
theorem dX8_clear_1 : decode cX8_clear 1 = .ok (.iconst 0, 1) := by decide +kernel
theorem dX8_clear_2 : decode cX8_clear 2 = .ok (.putfield 62, 3) := by decide +kernel
theorem dX8_clear_5 : decode cX8_clear 5 = .ok (.iload_n 1, 1) := by decide +kernel
theorem dX8_clear_6 : decode cX8_clear 6 = .ok (.iconst 0, 1) := by decide +kernel
theorem dX8_clear_7 : decode cX8_clear 7 = .ok (.bipush 19, 2) := by decide +kernel
theorem dX8_clear_9 : decode cX8_clear 9 = .ok (.invokestatic 88, 3) := by decide +kernel
theorem dX8_clear_12 : decode cX8_clear 12 = .ok (.ifCond .ne 5, 3) := by decide +kernel
theorem dX8_clear_15 : decode cX8_clear 15 = .ok (.iconst (-1), 1) := by decide +kernel
theorem dX8_clear_16 : decode cX8_clear 16 = .ok (.ireturn, 1) := by decide +kernel
theorem dX8_clear_17 : decode cX8_clear 17 = .ok (.aload_n 0, 1) := by decide +kernel
theorem dX8_clear_18 : decode cX8_clear 18 = .ok (.getfield 16, 3) := by decide +kernel
theorem dX8_clear_21 : decode cX8_clear 21 = .ok (.iload_n 1, 1) := by decide +kernel
theorem dX8_clear_22 : decode cX8_clear 22 = .ok (.iaload, 1) := by decide +kernel
theorem dX8_clear_23 : decode cX8_clear 23 = .ok (.istore_n 2, 1) := by decide +kernel
theorem dX8_clear_24 : decode cX8_clear 24 = .ok (.aload_n 0, 1) := by decide +kernel
theorem dX8_clear_25 : decode cX8_clear 25 = .ok (.getfield 16, 3) := by decide +kernel
theorem dX8_clear_28 : decode cX8_clear 28 = .ok (.iload_n 1, 1) := by decide +kernel
theorem dX8_clear_29 : decode cX8_clear 29 = .ok (.iconst 0, 1) := by decide +kernel
theorem dX8_clear_30 : decode cX8_clear 30 = .ok (.iastore, 1) := by decide +kernel
theorem dX8_clear_31 : decode cX8_clear 31 = .ok (.iload_n 2, 1) := by decide +kernel
theorem dX8_clear_32 : decode cX8_clear 32 = .ok (.ireturn, 1) := by decide +kernel
theorem dX8_lay_0 : decode cX8_lay 0 = .ok (.aload_n 0, 1) := by decide +kernel
theorem dX8_lay_1 : decode cX8_lay 1 = .ok (.getfield 19, 3) := by decide +kernel
theorem dX8_lay_4 : decode cX8_lay 4 = .ok (.aload_n 0, 1) := by decide +kernel
theorem dX8_lay_5 : decode cX8_lay 5 = .ok (.getfield 96, 3) := by decide +kernel
theorem dX8_lay_8 : decode cX8_lay 8 = .ok (.iload_n 1, 1) := by decide +kernel
theorem dX8_lay_9 : decode cX8_lay 9 = .ok (.iastore, 1) := by decide +kernel
theorem dX8_lay_10 : decode cX8_lay 10 = .ok (.aload_n 0, 1) := by decide +kernel
theorem dX8_lay_11 : decode cX8_lay 11 = .ok (.getfield 22, 3) := by decide +kernel
theorem dX8_lay_14 : decode cX8_lay 14 = .ok (.aload_n 0, 1) := by decide +kernel
theorem dX8_lay_15 : decode cX8_lay 15 = .ok (.getfield 96, 3) := by decide +kernel
theorem dX8_lay_18 : decode cX8_lay 18 = .ok (.iload_n 2, 1) := by decide +kernel
theorem dX8_lay_19 : decode cX8_lay 19 = .ok (.iastore, 1) := by decide +kernel
theorem dX8_lay_20 : decode cX8_lay 20 = .ok (.aload_n 0, 1) := by decide +kernel
theorem dX8_lay_21 : decode cX8_lay 21 = .ok (.dup, 1) := by decide +kernel
theorem dX8_lay_22 : decode cX8_lay 22 = .ok (.getfield 96, 3) := by decide +kernel
theorem dX8_lay_25 : decode cX8_lay 25 = .ok (.iconst 1, 1) := by decide +kernel
theorem dX8_lay_26 : decode cX8_lay 26 = .ok (.iadd, 1) := by decide +kernel
theorem dX8_lay_27 : decode cX8_lay 27 = .ok (.putfield 96, 3) := by decide +kernel
theorem dX8_lay_30 : decode cX8_lay 30 = .ok (.return_, 1) := by decide +kernel
theorem dX8_push_0 : decode cX8_push 0 = .ok (.aload_n 0, 1) := by decide +kernel
theorem dX8_push_1 : decode cX8_push 1 = .ok (.iconst 0, 1) := by decide +kernel
theorem dX8_push_2 : decode cX8_push 2 = .ok (.putfield 62, 3) := by decide +kernel
theorem dX8_push_5 : decode cX8_push 5 = .ok (.iload_n 1, 1) := by decide +kernel
theorem dX8_push_6 : decode cX8_push 6 = .ok (.iconst 0, 1) := by decide +kernel
theorem dX8_push_7 : decode cX8_push 7 = .ok (.iconst 4, 1) := by decide +kernel
theorem dX8_push_8 : decode cX8_push 8 = .ok (.invokestatic 88, 3) := by decide +kernel
theorem dX8_push_11 : decode cX8_push 11 = .ok (.ifCond .ne 5, 3) := by decide +kernel
theorem dX8_push_14 : decode cX8_push 14 = .ok (.iconst (-1), 1) := by decide +kernel
theorem dX8_push_15 : decode cX8_push 15 = .ok (.ireturn, 1) := by decide +kernel
theorem dX8_push_16 : decode cX8_push 16 = .ok (.iload_n 1, 1) := by decide +kernel
theorem dX8_push_17 : decode cX8_push 17 = .ok (.iload_n 2, 1) := by decide +kernel
theorem dX8_push_18 : decode cX8_push 18 = .ok (.invokestatic 92, 3) := by decide +kernel
theorem dX8_push_21 : decode cX8_push 21 = .ok (.ifCond .ne 6, 3) := by decide +kernel
theorem dX8_push_24 : decode cX8_push 24 = .ok (.bipush (-2), 2) := by decide +kernel
theorem dX8_push_26 : decode cX8_push 26 = .ok (.ireturn, 1) := by decide +kernel
theorem dX8_push_27 : decode cX8_push 27 = .ok (.aload_n 0, 1) := by decide +kernel
theorem dX8_push_28 : decode cX8_push 28 = .ok (.getfield 96, 3) := by decide +kernel
theorem dX8_push_31 : decode cX8_push 31 = .ok (.bipush 60, 2) := by decide +kernel
theorem dX8_push_33 : decode cX8_push 33 = .ok (.if_icmp .ne 6, 3) := by decide +kernel
theorem dX8_push_36 : decode cX8_push 36 = .ok (.bipush (-4), 2) := by decide +kernel
theorem dX8_push_38 : decode cX8_push 38 = .ok (.ireturn, 1) := by decide +kernel
theorem dX8_push_39 : decode cX8_push 39 = .ok (.aload_n 0, 1) := by decide +kernel
theorem dX8_push_40 : decode cX8_push 40 = .ok (.iload_n 1, 1) := by decide +kernel
theorem dX8_push_41 : decode cX8_push 41 = .ok (.iload_n 2, 1) := by decide +kernel
theorem dX8_push_42 : decode cX8_push 42 = .ok (.invokevirtual 99, 3) := by decide +kernel
theorem dX8_push_45 : decode cX8_push 45 = .ok (.aload_n 0, 1) := by decide +kernel
theorem dX8_push_46 : decode cX8_push 46 = .ok (.getfield 96, 3) := by decide +kernel
theorem dX8_push_49 : decode cX8_push 49 = .ok (.ireturn, 1) := by decide +kernel
theorem dX8_drop_0 : decode cX8_drop 0 = .ok (.aload_n 0, 1) := by decide +kernel
theorem dX8_drop_1 : decode cX8_drop 1 = .ok (.iconst 0, 1) := by decide +kernel
theorem dX8_drop_2 : decode cX8_drop 2 = .ok (.putfield 62, 3) := by decide +kernel
theorem dX8_drop_5 : decode cX8_drop 5 = .ok (.aload_n 0, 1) := by decide +kernel
theorem dX8_drop_6 : decode cX8_drop 6 = .ok (.getfield 96, 3) := by decide +kernel
theorem dX8_drop_9 : decode cX8_drop 9 = .ok (.istore_n 1, 1) := by decide +kernel
theorem dX8_drop_10 : decode cX8_drop 10 = .ok (.aload_n 0, 1) := by decide +kernel
theorem dX8_drop_11 : decode cX8_drop 11 = .ok (.iconst 0, 1) := by decide +kernel
theorem dX8_drop_12 : decode cX8_drop 12 = .ok (.putfield 96, 3) := by decide +kernel
theorem dX8_drop_15 : decode cX8_drop 15 = .ok (.iload_n 1, 1) := by decide +kernel
theorem dX8_drop_16 : decode cX8_drop 16 = .ok (.ireturn, 1) := by decide +kernel
theorem dX8_come_0 : decode cX8_come 0 = .ok (.aload_n 0, 1) := by decide +kernel
theorem dX8_come_1 : decode cX8_come 1 = .ok (.getfield 40, 3) := by decide +kernel
theorem dX8_come_4 : decode cX8_come 4 = .ok (.aload_n 0, 1) := by decide +kernel
theorem dX8_come_5 : decode cX8_come 5 = .ok (.getfield 103, 3) := by decide +kernel
theorem dX8_come_8 : decode cX8_come 8 = .ok (.iload_n 1, 1) := by decide +kernel
theorem dX8_come_9 : decode cX8_come 9 = .ok (.iastore, 1) := by decide +kernel
theorem dX8_come_10 : decode cX8_come 10 = .ok (.aload_n 0, 1) := by decide +kernel
theorem dX8_come_11 : decode cX8_come 11 = .ok (.getfield 43, 3) := by decide +kernel
theorem dX8_come_14 : decode cX8_come 14 = .ok (.aload_n 0, 1) := by decide +kernel
theorem dX8_come_15 : decode cX8_come 15 = .ok (.getfield 103, 3) := by decide +kernel
theorem dX8_come_18 : decode cX8_come 18 = .ok (.iload_n 2, 1) := by decide +kernel
theorem dX8_come_19 : decode cX8_come 19 = .ok (.iastore, 1) := by decide +kernel
theorem dX8_come_20 : decode cX8_come 20 = .ok (.aload_n 0, 1) := by decide +kernel
theorem dX8_come_21 : decode cX8_come 21 = .ok (.getfield 46, 3) := by decide +kernel
theorem dX8_come_24 : decode cX8_come 24 = .ok (.aload_n 0, 1) := by decide +kernel
theorem dX8_come_25 : decode cX8_come 25 = .ok (.getfield 103, 3) := by decide +kernel
theorem dX8_come_28 : decode cX8_come 28 = .ok (.iconst 0, 1) := by decide +kernel
theorem dX8_come_29 : decode cX8_come 29 = .ok (.iastore, 1) := by decide +kernel
theorem dX8_come_30 : decode cX8_come 30 = .ok (.aload_n 0, 1) := by decide +kernel
theorem dX8_come_31 : decode cX8_come 31 = .ok (.dup, 1) := by decide +kernel
theorem dX8_come_32 : decode cX8_come 32 = .ok (.getfield 103, 3) := by decide +kernel
theorem dX8_come_35 : decode cX8_come 35 = .ok (.iconst 1, 1) := by decide +kernel
theorem dX8_come_36 : decode cX8_come 36 = .ok (.iadd, 1) := by decide +kernel
theorem dX8_come_37 : decode cX8_come 37 = .ok (.putfield 103, 3) := by decide +kernel
theorem dX8_come_40 : decode cX8_come 40 = .ok (.aload_n 0, 1) := by decide +kernel
theorem dX8_come_41 : decode cX8_come 41 = .ok (.aload_n 0, 1) := by decide +kernel
theorem dX8_come_42 : decode cX8_come 42 = .ok (.getfield 103, 3) := by decide +kernel
theorem dX8_come_45 : decode cX8_come 45 = .ok (.aload_n 0, 1) := by decide +kernel
theorem dX8_come_46 : decode cX8_come 46 = .ok (.getfield 106, 3) := by decide +kernel
theorem dX8_come_49 : decode cX8_come 49 = .ok (.if_icmp .le 10, 3) := by decide +kernel
theorem dX8_come_52 : decode cX8_come 52 = .ok (.aload_n 0, 1) := by decide +kernel
theorem dX8_come_53 : decode cX8_come 53 = .ok (.getfield 103, 3) := by decide +kernel
theorem dX8_come_56 : decode cX8_come 56 = .ok (.goto 7, 3) := by decide +kernel
theorem dX8_come_59 : decode cX8_come 59 = .ok (.aload_n 0, 1) := by decide +kernel
theorem dX8_come_60 : decode cX8_come 60 = .ok (.getfield 106, 3) := by decide +kernel
theorem dX8_come_63 : decode cX8_come 63 = .ok (.putfield 106, 3) := by decide +kernel
theorem dX8_come_66 : decode cX8_come 66 = .ok (.return_, 1) := by decide +kernel
theorem dX8_stop_0 : decode cX8_stop 0 = .ok (.aload_n 0, 1) := by decide +kernel
theorem dX8_stop_1 : decode cX8_stop 1 = .ok (.getfield 103, 3) := by decide +kernel
theorem dX8_stop_4 : decode cX8_stop 4 = .ok (.ifCond .le 31, 3) := by decide +kernel
theorem dX8_stop_7 : decode cX8_stop 7 = .ok (.aload_n 0, 1) := by decide +kernel
theorem dX8_stop_8 : decode cX8_stop 8 = .ok (.getfield 40, 3) := by decide +kernel
theorem dX8_stop_11 : decode cX8_stop 11 = .ok (.aload_n 0, 1) := by decide +kernel
theorem dX8_stop_12 : decode cX8_stop 12 = .ok (.getfield 103, 3) := by decide +kernel
theorem dX8_stop_15 : decode cX8_stop 15 = .ok (.iconst 1, 1) := by decide +kernel
theorem dX8_stop_16 : decode cX8_stop 16 = .ok (.isub, 1) := by decide +kernel
theorem dX8_stop_17 : decode cX8_stop 17 = .ok (.iaload, 1) := by decide +kernel
theorem dX8_stop_18 : decode cX8_stop 18 = .ok (.iconst 4, 1) := by decide +kernel
theorem dX8_stop_19 : decode cX8_stop 19 = .ok (.if_icmp .eq 16, 3) := by decide +kernel
theorem dX8_stop_22 : decode cX8_stop 22 = .ok (.aload_n 0, 1) := by decide +kernel
theorem dX8_stop_23 : decode cX8_stop 23 = .ok (.dup, 1) := by decide +kernel
theorem dX8_stop_24 : decode cX8_stop 24 = .ok (.getfield 103, 3) := by decide +kernel
theorem dX8_stop_27 : decode cX8_stop 27 = .ok (.iconst 1, 1) := by decide +kernel
theorem dX8_stop_28 : decode cX8_stop 28 = .ok (.isub, 1) := by decide +kernel
theorem dX8_stop_29 : decode cX8_stop 29 = .ok (.putfield 103, 3) := by decide +kernel
theorem dX8_stop_32 : decode cX8_stop 32 = .ok (.goto (-32), 3) := by decide +kernel
theorem dX8_stop_35 : decode cX8_stop 35 = .ok (.aload_n 0, 1) := by decide +kernel
theorem dX8_stop_36 : decode cX8_stop 36 = .ok (.getfield 103, 3) := by decide +kernel
theorem dX8_stop_39 : decode cX8_stop 39 = .ok (.ifCond .ne 9, 3) := by decide +kernel
theorem dX8_stop_42 : decode cX8_stop 42 = .ok (.aload_n 0, 1) := by decide +kernel
theorem dX8_stop_43 : decode cX8_stop 43 = .ok (.iload_n 1, 1) := by decide +kernel
theorem dX8_stop_44 : decode cX8_stop 44 = .ok (.putfield 116, 3) := by decide +kernel
theorem dX8_stop_47 : decode cX8_stop 47 = .ok (.return_, 1) := by decide +kernel
theorem dX8_stop_48 : decode cX8_stop 48 = .ok (.aload_n 0, 1) := by decide +kernel
theorem dX8_stop_49 : decode cX8_stop 49 = .ok (.dup, 1) := by decide +kernel
theorem dX8_stop_50 : decode cX8_stop 50 = .ok (.getfield 103, 3) := by decide +kernel
theorem dX8_stop_53 : decode cX8_stop 53 = .ok (.iconst 1, 1) := by decide +kernel
theorem dX8_stop_54 : decode cX8_stop 54 = .ok (.isub, 1) := by decide +kernel
theorem dX8_stop_55 : decode cX8_stop 55 = .ok (.putfield 103, 3) := by decide +kernel
theorem dX8_stop_58 : decode cX8_stop 58 = .ok (.aload_n 0, 1) := by decide +kernel
theorem dX8_stop_59 : decode cX8_stop 59 = .ok (.aload_n 0, 1) := by decide +kernel
theorem dX8_stop_60 : decode cX8_stop 60 = .ok (.getfield 96, 3) := by decide +kernel
theorem dX8_stop_63 : decode cX8_stop 63 = .ok (.bipush 60, 2) := by decide +kernel
theorem dX8_stop_65 : decode cX8_stop 65 = .ok (.if_icmp .ne 8, 3) := by decide +kernel
theorem dX8_stop_68 : decode cX8_stop 68 = .ok (.bipush 59, 2) := by decide +kernel
theorem dX8_stop_70 : decode cX8_stop 70 = .ok (.goto 7, 3) := by decide +kernel
theorem dX8_stop_73 : decode cX8_stop 73 = .ok (.aload_n 0, 1) := by decide +kernel
theorem dX8_stop_74 : decode cX8_stop 74 = .ok (.getfield 96, 3) := by decide +kernel
theorem dX8_stop_77 : decode cX8_stop 77 = .ok (.putfield 96, 3) := by decide +kernel
theorem dX8_stop_80 : decode cX8_stop 80 = .ok (.aload_n 0, 1) := by decide +kernel
theorem dX8_stop_81 : decode cX8_stop 81 = .ok (.iconst 1, 1) := by decide +kernel
theorem dX8_stop_82 : decode cX8_stop 82 = .ok (.iconst 1, 1) := by decide +kernel
theorem dX8_stop_83 : decode cX8_stop 83 = .ok (.invokevirtual 99, 3) := by decide +kernel
theorem dX8_stop_86 : decode cX8_stop 86 = .ok (.return_, 1) := by decide +kernel
def fX8_thrown_0 (S : St) : Option (Int32 × St) :=
  some (S.1 0 0, S)
def fX8_in_14 (S : St) : Option (Int32 × St) :=
    some ((0 : Int32), S)
def fX8_in (p1 : Int32) (p2 : Int32) (p3 : Int32) (S : St) : Option (Int32 × St) :=
  if p1 < p2 then
    fX8_in_14 S
  else
    if p3 < p1 then
      fX8_in_14 S
    else
      some ((1 : Int32), S)
def fX8_fits_52 (S : St) : Option (Int32 × St) :=
    some ((1 : Int32), S)
def fX8_fits_46 (z0 : Int32) (z1 : Int32) (z2 : Int32) (S : St) : Option (Int32 × St) :=
    bnd (fX8_in z0 z1 z2 S) fun r1 S1 =>
    if r1 = 0 then
      some ((0 : Int32), S1)
    else
      fX8_fits_52 S1
def fX8_fits (p1 : Int32) (p2 : Int32) (S : St) : Option (Int32 × St) :=
  if p1 = 0 then
    fX8_fits_52 S
  else
    if p1 = (1 : Int32) then
      fX8_fits_46 p2 (0 : Int32) (1 : Int32) S
    else
      if p1 = (2 : Int32) then
        fX8_fits_46 p2 (0 : Int32) (39 : Int32) S
      else
        if p1 = (3 : Int32) then
          fX8_fits_46 p2 (0 : Int32) (0 : Int32) S
        else
          if p1 = (4 : Int32) then
            fX8_fits_46 p2 (0 : Int32) (19 : Int32) S
          else
            fX8_fits_46 p2 (0 : Int32) (27 : Int32) S
def fX8_token_0_24 (S : St) : Option (Int32 × St) :=
    some ((-1 : Int32), S)
def fX8_token_0 (p1 : Int32) (p2 : Int32) (p3 : Int32) (S : St) : Option (Int32 × St) :=
  stp (si S 0 0 (0 : Int32)) fun S1 =>
  bnd (fX8_in p1 (0 : Int32) (19 : Int32) S1) fun r2 S2 =>
  if r2 = 0 then
    fX8_token_0_24 S2
  else
    bnd (fX8_in p2 (0 : Int32) (5 : Int32) S2) fun r4 S4 =>
    if r4 = 0 then
      fX8_token_0_24 S4
    else
      bnd (fX8_fits p2 p3 S4) fun r6 S6 =>
      if r6 = 0 then
        some ((-2 : Int32), S6)
      else
        if vq p1 20 then
        if (S6.1 3 p1.toNatClampNeg) = (24 : Int32) then
          some ((-4 : Int32), S6)
        else
          if vq p1 20 then
          stv (((24 : Int32) * p1) + (S6.1 3 p1.toNatClampNeg)) fun y11 =>
          if vq y11 480 then
          stp (si S6 1 y11.toNatClampNeg p2) fun S12 =>
          if vq y11 480 then
          stp (si S12 2 y11.toNatClampNeg p3) fun S13 =>
          if vq p1 20 then
          if vq p1 20 then
          stp (si S13 3 p1.toNatClampNeg ((S13.1 3 p1.toNatClampNeg) + (1 : Int32))) fun S15 =>
          if vq p1 20 then
          some (S15.1 3 p1.toNatClampNeg, S15)
          else none
          else none
          else none
          else none
          else none
          else none
        else none
def fX8_clear_0 (p1 : Int32) (S : St) : Option (Int32 × St) :=
  stp (si S 0 0 (0 : Int32)) fun S1 =>
  bnd (fX8_in p1 (0 : Int32) (19 : Int32) S1) fun r2 S2 =>
  if r2 = 0 then
    some ((-1 : Int32), S2)
  else
    if vq p1 20 then
    stv (S2.1 3 p1.toNatClampNeg) fun y5 =>
    if vq p1 20 then
    stp (si S2 3 p1.toNatClampNeg (0 : Int32)) fun S6 =>
    some (y5, S6)
    else none
    else none
def fX8_lay_0 (p1 : Int32) (p2 : Int32) (S : St) : Option (Int32 × St) :=
  if vq (S.1 0 6) 60 then
  stp (si S 4 (S.1 0 6).toNatClampNeg p1) fun S1 =>
  if vq (S1.1 0 6) 60 then
  stp (si S1 5 (S1.1 0 6).toNatClampNeg p2) fun S2 =>
  stp (si S2 0 6 ((S2.1 0 6) + (1 : Int32))) fun S3 =>
  some (0, S3)
  else none
  else none
def fX8_push_0 (p1 : Int32) (p2 : Int32) (S : St) : Option (Int32 × St) :=
  stp (si S 0 0 (0 : Int32)) fun S1 =>
  bnd (fX8_in p1 (0 : Int32) (4 : Int32) S1) fun r2 S2 =>
  if r2 = 0 then
    some ((-1 : Int32), S2)
  else
    bnd (fX8_fits p1 p2 S2) fun r4 S4 =>
    if r4 = 0 then
      some ((-2 : Int32), S4)
    else
      if (S4.1 0 6) = (60 : Int32) then
        some ((-4 : Int32), S4)
      else
        bnd (fX8_lay_0 p1 p2 S4) fun _ S7 =>
        some (S7.1 0 6, S7)
def fX8_drop_0 (S : St) : Option (Int32 × St) :=
  stp (si S 0 0 (0 : Int32)) fun S1 =>
  stv (S1.1 0 6) fun y2 =>
  stp (si S1 0 6 (0 : Int32)) fun S3 =>
  some (y2, S3)
def fX8_come_0_63 (z1 : Int32) (S : St) : Option (Int32 × St) :=
    stp (si S 0 27 z1) fun S1 =>
    some (0, S1)
def fX8_come_0 (p1 : Int32) (p2 : Int32) (S : St) : Option (Int32 × St) :=
  if vq (S.1 0 19) 30 then
  stp (si S 11 (S.1 0 19).toNatClampNeg p1) fun S1 =>
  if vq (S1.1 0 19) 30 then
  stp (si S1 12 (S1.1 0 19).toNatClampNeg p2) fun S2 =>
  if vq (S2.1 0 19) 30 then
  stp (si S2 13 (S2.1 0 19).toNatClampNeg (0 : Int32)) fun S3 =>
  stp (si S3 0 19 ((S3.1 0 19) + (1 : Int32))) fun S4 =>
  if (S4.1 0 19) ≤ (S4.1 0 27) then
    fX8_come_0_63 (S4.1 0 27) S4
  else
    fX8_come_0_63 (S4.1 0 19) S4
  else none
  else none
  else none
def fX8_stop_0_77 (z1 : Int32) (S : St) : Option (Int32 × St) :=
    stp (si S 0 6 z1) fun S1 =>
    bnd (fX8_lay_0 (1 : Int32) (1 : Int32) S1) fun _ S2 =>
    some (0, S2)
def fX8_stop_0_35 (q1 : Int32) (S : St) : Option (Int32 × St) :=
    if (S.1 0 19) = 0 then
      stp (si S 0 29 q1) fun S2 =>
      some (0, S2)
    else
      stp (si S 0 19 ((S.1 0 19) - (1 : Int32))) fun S3 =>
      if (S3.1 0 6) = (60 : Int32) then
        fX8_stop_0_77 (59 : Int32) S3
      else
        fX8_stop_0_77 (S3.1 0 6) S3
def fX8_stop_0_0 : Nat → Int32 → St → Option (Int32 × St)
  | 0, _, _ => none
  | n + 1, q1, S =>
    if (S.1 0 19) ≤ 0 then
      fX8_stop_0_35 q1 S
    else
      if vq ((S.1 0 19) - (1 : Int32)) 30 then
      if (S.1 11 ((S.1 0 19) - (1 : Int32)).toNatClampNeg) = (4 : Int32) then
        fX8_stop_0_35 q1 S
      else
        stp (si S 0 19 ((S.1 0 19) - (1 : Int32))) fun S4 =>
        fX8_stop_0_0 n q1 S4
      else none
def fX8_stop_0 (p1 : Int32) (S : St) : Option (Int32 × St) :=
  fX8_stop_0_0 500 p1 S
set_option maxRecDepth 100000 in
set_option maxHeartbeats 4000000 in
theorem mX8_thrown_0 (l : Launch) (D : va_G) (a : Nat → Nat) (cI cJ : ClassId) (tk : Nat) (tf : Nat → Int32) (S : St) (x : Int32 × St) (hf : fX8_thrown_0 S = some x) : Mi l D (wM a cI cJ) a 17 cI cJ tk tf yX8_thrown cX8_thrown 1 (some .int) { frames := 0, cells := 0, slots := 0, locals := 0 } [.ref (a 0)] S x := by
  refine opn_i (by decide +kernel) (Nat.le_of_ble_eq_true rfl) (fun p e s m below meth c C hr G ls hl => ?_)
  replace hl : lv_has ls 1 [(0, .ref (a 0))] := hl
  unfold fX8_thrown_0 at hf
  refine lv_aload_n C.1 C.2.1 dX8_thrown_0 rfl (lv_at hl 0 rfl) ?_
  refine gM_0_0 C G k_758 dX8_thrown_1 ?_
  exact r_iret C hr G hf dX8_thrown_4
set_option maxRecDepth 100000 in
set_option maxHeartbeats 4000000 in
theorem rX8_in_14 {p : Program} {l : Launch} {e : Env} {s : State} {m : MethodId} {args : Array Value} {below : List Frame} {meth : Method} {c : Code} {D : va_G} {a : Nat → Nat} {cI cJ : ClassId} {tk : Nat} {tf : Nat → Int32} (C : Cx p s m args meth c RX8 cX8_in 3 D cI cJ tk tf (AR a 17 s.heap.size)) (hr : meth.sig.returnType = (some .boolean)) : ∀ (S : St) (x : Int32 × St) (H : Heap) (locs : List Loc) (ls : Array Slot), fX8_in_14 S = some x → Wd D (wM a cI cJ) (AR a 17 s.heap.size) s S H locs → lv_has ls 3 [] → W p l e { frames := 0, cells := 0, slots := 0, locals := 0 } s m args below meth c H locs 0 0 (MQ below (Qi D (wM a cI cJ) (AR a 17 s.heap.size) x) args s 0 0 (AR a 17 s.heap.size)) (F0 m 14 ls []) := by
  intro S x H locs ls hf G hl
  unfold fX8_in_14 at hf
  refine lv_iconst (v := 0) C.1 C.2.1 dX8_in_14 (by decide) ?_
  exact r_zret C hr (Or.inl rfl) G hf dX8_in_15
set_option maxRecDepth 100000 in
set_option maxHeartbeats 4000000 in
theorem mX8_in (l : Launch) (D : va_G) (a : Nat → Nat) (cI cJ : ClassId) (tk : Nat) (tf : Nat → Int32) (p1 : Int32) (p2 : Int32) (p3 : Int32) (S : St) (x : Int32 × St) (hf : fX8_in p1 p2 p3 S = some x) : Mi l D (wM a cI cJ) a 17 cI cJ tk tf yX8_in cX8_in 3 (some .boolean) { frames := 0, cells := 0, slots := 0, locals := 0 } [.int p1, .int p2, .int p3] S x := by
  refine opn_i (by decide +kernel) (Nat.le_of_ble_eq_true rfl) (fun p e s m below meth c C hr G ls hl => ?_)
  replace hl : lv_has ls 3 [(0, .int p1), (1, .int p2), (2, .int p3)] := hl
  unfold fX8_in at hf
  refine lv_iload_n C.1 C.2.1 dX8_in_0 rfl (lv_at hl 0 rfl) ?_
  refine lv_iload_n C.1 C.2.1 dX8_in_1 rfl (lv_at hl 1 rfl) ?_
  refine lv_icmp_lt (tgt := 14) C.1 C.2.1 dX8_in_2 (by decide) (fun c1 => ?_) (fun c1 => ?_)
  · replace hf := ifp c1 hf
    exact rX8_in_14 C hr S _ _ _ _ hf G (lv_sub hl [] rfl)
  · replace hf := ifq c1 hf
    refine lv_iload_n C.1 C.2.1 dX8_in_5 rfl (lv_at hl 0 rfl) ?_
    refine lv_iload_n C.1 C.2.1 dX8_in_6 rfl (lv_at hl 2 rfl) ?_
    refine lv_icmp_gt (tgt := 14) C.1 C.2.1 dX8_in_7 (by decide) (fun c2 => ?_) (fun c2 => ?_)
    · replace hf := ifp c2 hf
      exact rX8_in_14 C hr S _ _ _ _ hf G (lv_sub hl [] rfl)
    · replace hf := ifq c2 hf
      refine lv_iconst (v := 1) C.1 C.2.1 dX8_in_10 (by decide) ?_
      refine lv_goto (tgt := 15) C.1 C.2.1 dX8_in_11 (by decide) ?_
      exact r_zret C hr (Or.inr rfl) G hf dX8_in_15
set_option maxRecDepth 100000 in
set_option maxHeartbeats 4000000 in
theorem rX8_fits_52 {p : Program} {l : Launch} {e : Env} {s : State} {m : MethodId} {args : Array Value} {below : List Frame} {meth : Method} {c : Code} {D : va_G} {a : Nat → Nat} {cI cJ : ClassId} {tk : Nat} {tf : Nat → Int32} (C : Cx p s m args meth c RX8 cX8_fits 2 D cI cJ tk tf (AR a 17 s.heap.size)) (hr : meth.sig.returnType = (some .boolean)) : ∀ (S : St) (x : Int32 × St) (H : Heap) (locs : List Loc) (ls : Array Slot), fX8_fits_52 S = some x → Wd D (wM a cI cJ) (AR a 17 s.heap.size) s S H locs → lv_has ls 2 [] → W p l e { frames := 1, cells := 0, slots := 0, locals := 22 } s m args below meth c H locs 0 0 (MQ below (Qi D (wM a cI cJ) (AR a 17 s.heap.size) x) args s 0 0 (AR a 17 s.heap.size)) (F0 m 52 ls []) := by
  intro S x H locs ls hf G hl
  unfold fX8_fits_52 at hf
  refine lv_iconst (v := 1) C.1 C.2.1 dX8_fits_52 (by decide) ?_
  refine lv_goto (tgt := 57) C.1 C.2.1 dX8_fits_53 (by decide) ?_
  exact r_zret C hr (Or.inr rfl) G hf dX8_fits_57
set_option maxRecDepth 100000 in
set_option maxHeartbeats 4000000 in
theorem rX8_fits_46 {p : Program} {l : Launch} {e : Env} {s : State} {m : MethodId} {args : Array Value} {below : List Frame} {meth : Method} {c : Code} {D : va_G} {a : Nat → Nat} {cI cJ : ClassId} {tk : Nat} {tf : Nat → Int32} (C : Cx p s m args meth c RX8 cX8_fits 2 D cI cJ tk tf (AR a 17 s.heap.size)) (hr : meth.sig.returnType = (some .boolean)) : ∀ (z0 : Int32) (z1 : Int32) (z2 : Int32) (S : St) (x : Int32 × St) (H : Heap) (locs : List Loc) (ls : Array Slot), fX8_fits_46 z0 z1 z2 S = some x → Wd D (wM a cI cJ) (AR a 17 s.heap.size) s S H locs → lv_has ls 2 [] → W p l e { frames := 1, cells := 0, slots := 0, locals := 22 } s m args below meth c H locs 0 0 (MQ below (Qi D (wM a cI cJ) (AR a 17 s.heap.size) x) args s 0 0 (AR a 17 s.heap.size)) (F0 m 46 ls [.int z2, .int z1, .int z0]) := by
  intro z0 z1 z2 S x H locs ls hf G hl
  unfold fX8_fits_46 at hf
  obtain ⟨r1, S1, eS1, hf⟩ := bnd_e hf
  refine r_cals (As := [.int z0, .int z1, .int z2]) (na := 3) C adM G (mX8_in l D a cI cJ tk tf z0 z1 z2 S _ eS1) k_857 k_858 k_68 k_859 (by decide +kernel) ⟨Nat.le_of_ble_eq_true rfl, Nat.le_of_ble_eq_true rfl⟩ rfl rfl ⟨Nat.zero_le _, Nat.zero_le _⟩ rfl hl.1 rfl (Nat.le_of_ble_eq_true rfl) dX8_fits_46 (fun H locs G => ?_)
  refine lv_if_eq (tgt := 56) C.1 C.2.1 dX8_fits_49 (by decide) (fun c2 => ?_) (fun c2 => ?_)
  · replace hf := ifp c2 hf
    refine lv_iconst (v := 0) C.1 C.2.1 dX8_fits_56 (by decide) ?_
    exact r_zret C hr (Or.inl rfl) G hf dX8_fits_57
  · replace hf := ifq c2 hf
    exact rX8_fits_52 C hr S1 _ _ _ _ hf G (lv_sub hl [] rfl)
set_option maxRecDepth 100000 in
set_option maxHeartbeats 4000000 in
theorem mX8_fits (l : Launch) (D : va_G) (a : Nat → Nat) (cI cJ : ClassId) (tk : Nat) (tf : Nat → Int32) (p1 : Int32) (p2 : Int32) (S : St) (x : Int32 × St) (hf : fX8_fits p1 p2 S = some x) : Mi l D (wM a cI cJ) a 17 cI cJ tk tf yX8_fits cX8_fits 2 (some .boolean) { frames := 1, cells := 0, slots := 0, locals := 22 } [.int p1, .int p2] S x := by
  refine opn_i (by decide +kernel) (Nat.le_of_ble_eq_true rfl) (fun p e s m below meth c C hr G ls hl => ?_)
  replace hl : lv_has ls 2 [(0, .int p1), (1, .int p2)] := hl
  unfold fX8_fits at hf
  refine lv_iload_n C.1 C.2.1 dX8_fits_0 rfl (lv_at hl 0 rfl) ?_
  refine lv_if_eq (tgt := 52) C.1 C.2.1 dX8_fits_1 (by decide) (fun c1 => ?_) (fun c1 => ?_)
  · replace hf := ifp c1 hf
    exact rX8_fits_52 C hr S _ _ _ _ hf G (lv_sub hl [] rfl)
  · replace hf := ifq c1 hf
    refine lv_iload_n C.1 C.2.1 dX8_fits_4 rfl (lv_at hl 1 rfl) ?_
    refine lv_iconst (v := 0) C.1 C.2.1 dX8_fits_5 (by decide) ?_
    refine lv_iload_n C.1 C.2.1 dX8_fits_6 rfl (lv_at hl 0 rfl) ?_
    refine lv_iconst (v := 1) C.1 C.2.1 dX8_fits_7 (by decide) ?_
    refine lv_icmp_ne (tgt := 15) C.1 C.2.1 dX8_fits_8 (by decide) (fun c2 => ?_) (fun c2 => ?_)
    · replace hf := ifq c2 hf
      refine lv_iload_n C.1 C.2.1 dX8_fits_15 rfl (lv_at hl 0 rfl) ?_
      refine lv_iconst (v := 2) C.1 C.2.1 dX8_fits_16 (by decide) ?_
      refine lv_icmp_ne (tgt := 25) C.1 C.2.1 dX8_fits_17 (by decide) (fun c3 => ?_) (fun c3 => ?_)
      · replace hf := ifq c3 hf
        refine lv_iload_n C.1 C.2.1 dX8_fits_25 rfl (lv_at hl 0 rfl) ?_
        refine lv_iconst (v := 3) C.1 C.2.1 dX8_fits_26 (by decide) ?_
        refine lv_icmp_ne (tgt := 34) C.1 C.2.1 dX8_fits_27 (by decide) (fun c4 => ?_) (fun c4 => ?_)
        · replace hf := ifq c4 hf
          refine lv_iload_n C.1 C.2.1 dX8_fits_34 rfl (lv_at hl 0 rfl) ?_
          refine lv_iconst (v := 4) C.1 C.2.1 dX8_fits_35 (by decide) ?_
          refine lv_icmp_ne (tgt := 44) C.1 C.2.1 dX8_fits_36 (by decide) (fun c5 => ?_) (fun c5 => ?_)
          · replace hf := ifq c5 hf
            refine lv_bipush (v := 27) C.1 C.2.1 dX8_fits_44 (by decide) ?_
            exact rX8_fits_46 C hr p2 (0 : Int32) (27 : Int32) S _ _ _ _ hf G (lv_sub hl [] rfl)
          · replace hf := ifp c5 hf
            refine lv_bipush (v := 19) C.1 C.2.1 dX8_fits_39 (by decide) ?_
            refine lv_goto (tgt := 46) C.1 C.2.1 dX8_fits_41 (by decide) ?_
            exact rX8_fits_46 C hr p2 (0 : Int32) (19 : Int32) S _ _ _ _ hf G (lv_sub hl [] rfl)
        · replace hf := ifp c4 hf
          refine lv_iconst (v := 0) C.1 C.2.1 dX8_fits_30 (by decide) ?_
          refine lv_goto (tgt := 46) C.1 C.2.1 dX8_fits_31 (by decide) ?_
          exact rX8_fits_46 C hr p2 (0 : Int32) (0 : Int32) S _ _ _ _ hf G (lv_sub hl [] rfl)
      · replace hf := ifp c3 hf
        refine lv_bipush (v := 39) C.1 C.2.1 dX8_fits_20 (by decide) ?_
        refine lv_goto (tgt := 46) C.1 C.2.1 dX8_fits_22 (by decide) ?_
        exact rX8_fits_46 C hr p2 (0 : Int32) (39 : Int32) S _ _ _ _ hf G (lv_sub hl [] rfl)
    · replace hf := ifp c2 hf
      refine lv_iconst (v := 1) C.1 C.2.1 dX8_fits_11 (by decide) ?_
      refine lv_goto (tgt := 46) C.1 C.2.1 dX8_fits_12 (by decide) ?_
      exact rX8_fits_46 C hr p2 (0 : Int32) (1 : Int32) S _ _ _ _ hf G (lv_sub hl [] rfl)
set_option maxRecDepth 100000 in
set_option maxHeartbeats 4000000 in
theorem rX8_token_0_24 {p : Program} {l : Launch} {e : Env} {s : State} {m : MethodId} {args : Array Value} {below : List Frame} {meth : Method} {c : Code} {D : va_G} {a : Nat → Nat} {cI cJ : ClassId} {tk : Nat} {tf : Nat → Int32} (C : Cx p s m args meth c RX8 cX8_token 5 D cI cJ tk tf (AR a 17 s.heap.size)) (hr : meth.sig.returnType = (some .int)) : ∀ (S : St) (x : Int32 × St) (H : Heap) (locs : List Loc) (ls : Array Slot), fX8_token_0_24 S = some x → Wd D (wM a cI cJ) (AR a 17 s.heap.size) s S H locs → lv_has ls 5 [] → W p l e { frames := 2, cells := 0, slots := 0, locals := 43 } s m args below meth c H locs 0 0 (MQ below (Qi D (wM a cI cJ) (AR a 17 s.heap.size) x) args s 0 0 (AR a 17 s.heap.size)) (F0 m 24 ls []) := by
  intro S x H locs ls hf G hl
  unfold fX8_token_0_24 at hf
  refine lv_iconst (v := (-1)) C.1 C.2.1 dX8_token_24 (by decide) ?_
  exact r_iret C hr G hf dX8_token_25
set_option maxRecDepth 100000 in
set_option maxHeartbeats 4000000 in
theorem mX8_token_0 (l : Launch) (D : va_G) (a : Nat → Nat) (cI cJ : ClassId) (tk : Nat) (tf : Nat → Int32) (p1 : Int32) (p2 : Int32) (p3 : Int32) (S : St) (x : Int32 × St) (hf : fX8_token_0 p1 p2 p3 S = some x) : Mi l D (wM a cI cJ) a 17 cI cJ tk tf yX8_token cX8_token 5 (some .int) { frames := 2, cells := 0, slots := 0, locals := 43 } [.ref (a 0), .int p1, .int p2, .int p3] S x := by
  refine opn_i (by decide +kernel) (Nat.le_of_ble_eq_true rfl) (fun p e s m below meth c C hr G ls hl => ?_)
  replace hl : lv_has ls 5 [(0, .ref (a 0)), (1, .int p1), (2, .int p2), (3, .int p3)] := hl
  unfold fX8_token_0 at hf
  refine lv_aload_n C.1 C.2.1 dX8_token_0 rfl (lv_at hl 0 rfl) ?_
  refine lv_iconst (v := 0) C.1 C.2.1 dX8_token_1 (by decide) ?_
  refine pM_0_0 C G k_758 dX8_token_2 (fun H locs G => ?_)
  obtain ⟨S1, eS1, hf⟩ := stp_e hf
  rw [← eS1] at G
  clear eS1
  refine lv_iload_n C.1 C.2.1 dX8_token_5 rfl (lv_at hl 1 rfl) ?_
  refine lv_iconst (v := 0) C.1 C.2.1 dX8_token_6 (by decide) ?_
  refine lv_bipush (v := 19) C.1 C.2.1 dX8_token_7 (by decide) ?_
  obtain ⟨r2, S2, eS2, hf⟩ := bnd_e hf
  refine r_cals (As := [.int p1, .int (0 : Int32), .int (19 : Int32)]) (na := 3) C adM G (mX8_in l D a cI cJ tk tf p1 (0 : Int32) (19 : Int32) S1 _ eS2) k_857 k_858 k_68 k_859 (by decide +kernel) ⟨Nat.le_of_ble_eq_true rfl, Nat.le_of_ble_eq_true rfl⟩ rfl rfl ⟨Nat.zero_le _, Nat.zero_le _⟩ rfl hl.1 rfl (Nat.le_of_ble_eq_true rfl) dX8_token_9 (fun H locs G => ?_)
  refine lv_if_eq (tgt := 24) C.1 C.2.1 dX8_token_12 (by decide) (fun c3 => ?_) (fun c3 => ?_)
  · replace hf := ifp c3 hf
    exact rX8_token_0_24 C hr S2 _ _ _ _ hf G (lv_sub hl [] rfl)
  · replace hf := ifq c3 hf
    refine lv_iload_n C.1 C.2.1 dX8_token_15 rfl (lv_at hl 2 rfl) ?_
    refine lv_iconst (v := 0) C.1 C.2.1 dX8_token_16 (by decide) ?_
    refine lv_iconst (v := 5) C.1 C.2.1 dX8_token_17 (by decide) ?_
    obtain ⟨r4, S4, eS4, hf⟩ := bnd_e hf
    refine r_cals (As := [.int p2, .int (0 : Int32), .int (5 : Int32)]) (na := 3) C adM G (mX8_in l D a cI cJ tk tf p2 (0 : Int32) (5 : Int32) S2 _ eS4) k_857 k_858 k_68 k_859 (by decide +kernel) ⟨Nat.le_of_ble_eq_true rfl, Nat.le_of_ble_eq_true rfl⟩ rfl rfl ⟨Nat.zero_le _, Nat.zero_le _⟩ rfl hl.1 rfl (Nat.le_of_ble_eq_true rfl) dX8_token_18 (fun H locs G => ?_)
    refine lv_if_ne (tgt := 26) C.1 C.2.1 dX8_token_21 (by decide) (fun c5 => ?_) (fun c5 => ?_)
    · replace hf := ifq c5 hf
      refine lv_iload_n C.1 C.2.1 dX8_token_26 rfl (lv_at hl 2 rfl) ?_
      refine lv_iload_n C.1 C.2.1 dX8_token_27 rfl (lv_at hl 3 rfl) ?_
      obtain ⟨r6, S6, eS6, hf⟩ := bnd_e hf
      refine r_cals (As := [.int p2, .int p3]) (na := 2) C adM G (mX8_fits l D a cI cJ tk tf p2 p3 S4 _ eS6) k_860 k_861 k_68 k_862 (by decide +kernel) ⟨Nat.le_of_ble_eq_true rfl, Nat.le_of_ble_eq_true rfl⟩ rfl rfl ⟨Nat.zero_le _, Nat.zero_le _⟩ rfl hl.1 rfl (Nat.le_of_ble_eq_true rfl) dX8_token_28 (fun H locs G => ?_)
      refine lv_if_ne (tgt := 37) C.1 C.2.1 dX8_token_31 (by decide) (fun c7 => ?_) (fun c7 => ?_)
      · replace hf := ifq c7 hf
        refine lv_aload_n C.1 C.2.1 dX8_token_37 rfl (lv_at hl 0 rfl) ?_
        refine gM_0_3 C G k_761 dX8_token_38 ?_
        refine lv_iload_n C.1 C.2.1 dX8_token_41 rfl (lv_at hl 1 rfl) ?_
        obtain ⟨hi8, hf⟩ := ifn hf
        refine aM_3 C G hi8 dX8_token_42 ?_
        refine lv_bipush (v := 24) C.1 C.2.1 dX8_token_43 (by decide) ?_
        refine lv_icmp_ne (tgt := 51) C.1 C.2.1 dX8_token_45 (by decide) (fun c9 => ?_) (fun c9 => ?_)
        · replace hf := ifq c9 hf
          refine lv_bipush (v := 24) C.1 C.2.1 dX8_token_51 (by decide) ?_
          refine lv_iload_n C.1 C.2.1 dX8_token_53 rfl (lv_at hl 1 rfl) ?_
          refine lv_imul C.1 C.2.1 dX8_token_54 ?_
          refine lv_aload_n C.1 C.2.1 dX8_token_55 rfl (lv_at hl 0 rfl) ?_
          refine gM_0_3 C G k_761 dX8_token_56 ?_
          refine lv_iload_n C.1 C.2.1 dX8_token_59 rfl (lv_at hl 1 rfl) ?_
          obtain ⟨hi10, hf⟩ := ifn hf
          refine aM_3 C G hi10 dX8_token_60 ?_
          refine lv_iadd C.1 C.2.1 dX8_token_61 ?_
          obtain ⟨y11, ey11, hf⟩ := stv_e hf
          refine nm_i ey11 ?_
          refine lv_istore (lv' := [(4, .int y11), (0, .ref (a 0)), (1, .int p1), (2, .int p2), (3, .int p3)]) C.1 C.2.1 dX8_token_62 hl (by decide) rfl (fun ls hl => ?_)
          refine lv_aload_n C.1 C.2.1 dX8_token_64 rfl (lv_at hl 1 rfl) ?_
          refine gM_0_1 C G k_759 dX8_token_65 ?_
          refine lv_iload C.1 C.2.1 dX8_token_68 (lv_at hl 0 rfl) ?_
          refine lv_iload_n C.1 C.2.1 dX8_token_70 rfl (lv_at hl 3 rfl) ?_
          obtain ⟨hi12, hf⟩ := ifn hf
          refine sM_1 C G hi12 dX8_token_71 (fun H locs G => ?_)
          obtain ⟨S12, eS12, hf⟩ := stp_e hf
          rw [← eS12] at G
          clear eS12
          refine lv_aload_n C.1 C.2.1 dX8_token_72 rfl (lv_at hl 1 rfl) ?_
          refine gM_0_2 C G k_760 dX8_token_73 ?_
          refine lv_iload C.1 C.2.1 dX8_token_76 (lv_at hl 0 rfl) ?_
          refine lv_iload_n C.1 C.2.1 dX8_token_78 rfl (lv_at hl 4 rfl) ?_
          obtain ⟨hi13, hf⟩ := ifn hf
          refine sM_2 C G hi13 dX8_token_79 (fun H locs G => ?_)
          obtain ⟨S13, eS13, hf⟩ := stp_e hf
          rw [← eS13] at G
          clear eS13
          refine lv_aload_n C.1 C.2.1 dX8_token_80 rfl (lv_at hl 1 rfl) ?_
          refine gM_0_3 C G k_761 dX8_token_81 ?_
          refine lv_iload_n C.1 C.2.1 dX8_token_84 rfl (lv_at hl 2 rfl) ?_
          refine lv_dup2_11 C.1 C.2.1 dX8_token_85 rfl rfl ?_
          obtain ⟨hi14, hf⟩ := ifn hf
          refine aM_3 C G hi14 dX8_token_86 ?_
          refine lv_iconst (v := 1) C.1 C.2.1 dX8_token_87 (by decide) ?_
          refine lv_iadd C.1 C.2.1 dX8_token_88 ?_
          obtain ⟨hi15, hf⟩ := ifn hf
          refine sM_3 C G hi15 dX8_token_89 (fun H locs G => ?_)
          obtain ⟨S15, eS15, hf⟩ := stp_e hf
          rw [← eS15] at G
          clear eS15
          refine lv_aload_n C.1 C.2.1 dX8_token_90 rfl (lv_at hl 1 rfl) ?_
          refine gM_0_3 C G k_761 dX8_token_91 ?_
          refine lv_iload_n C.1 C.2.1 dX8_token_94 rfl (lv_at hl 2 rfl) ?_
          obtain ⟨hi16, hf⟩ := ifn hf
          refine aM_3 C G hi16 dX8_token_95 ?_
          exact r_iret C hr G hf dX8_token_96
        · replace hf := ifp c9 hf
          refine lv_bipush (v := (-4)) C.1 C.2.1 dX8_token_48 (by decide) ?_
          exact r_iret C hr G hf dX8_token_50
      · replace hf := ifp c7 hf
        refine lv_bipush (v := (-2)) C.1 C.2.1 dX8_token_34 (by decide) ?_
        exact r_iret C hr G hf dX8_token_36
    · replace hf := ifp c5 hf
      exact rX8_token_0_24 C hr S4 _ _ _ _ hf G (lv_sub hl [] rfl)
set_option maxRecDepth 100000 in
set_option maxHeartbeats 4000000 in
theorem mX8_clear_0 (l : Launch) (D : va_G) (a : Nat → Nat) (cI cJ : ClassId) (tk : Nat) (tf : Nat → Int32) (p1 : Int32) (S : St) (x : Int32 × St) (hf : fX8_clear_0 p1 S = some x) : Mi l D (wM a cI cJ) a 17 cI cJ tk tf yX8_clear cX8_clear 3 (some .int) { frames := 1, cells := 0, slots := 0, locals := 22 } [.ref (a 0), .int p1] S x := by
  refine opn_i (by decide +kernel) (Nat.le_of_ble_eq_true rfl) (fun p e s m below meth c C hr G ls hl => ?_)
  replace hl : lv_has ls 3 [(0, .ref (a 0)), (1, .int p1)] := hl
  unfold fX8_clear_0 at hf
  refine lv_aload_n C.1 C.2.1 dX8_clear_0 rfl (lv_at hl 0 rfl) ?_
  refine lv_iconst (v := 0) C.1 C.2.1 dX8_clear_1 (by decide) ?_
  refine pM_0_0 C G k_758 dX8_clear_2 (fun H locs G => ?_)
  obtain ⟨S1, eS1, hf⟩ := stp_e hf
  rw [← eS1] at G
  clear eS1
  refine lv_iload_n C.1 C.2.1 dX8_clear_5 rfl (lv_at hl 1 rfl) ?_
  refine lv_iconst (v := 0) C.1 C.2.1 dX8_clear_6 (by decide) ?_
  refine lv_bipush (v := 19) C.1 C.2.1 dX8_clear_7 (by decide) ?_
  obtain ⟨r2, S2, eS2, hf⟩ := bnd_e hf
  refine r_cals (As := [.int p1, .int (0 : Int32), .int (19 : Int32)]) (na := 3) C adM G (mX8_in l D a cI cJ tk tf p1 (0 : Int32) (19 : Int32) S1 _ eS2) k_857 k_858 k_68 k_859 (by decide +kernel) ⟨Nat.le_of_ble_eq_true rfl, Nat.le_of_ble_eq_true rfl⟩ rfl rfl ⟨Nat.zero_le _, Nat.zero_le _⟩ rfl hl.1 rfl (Nat.le_of_ble_eq_true rfl) dX8_clear_9 (fun H locs G => ?_)
  refine lv_if_ne (tgt := 17) C.1 C.2.1 dX8_clear_12 (by decide) (fun c3 => ?_) (fun c3 => ?_)
  · replace hf := ifq c3 hf
    refine lv_aload_n C.1 C.2.1 dX8_clear_17 rfl (lv_at hl 0 rfl) ?_
    refine gM_0_3 C G k_761 dX8_clear_18 ?_
    refine lv_iload_n C.1 C.2.1 dX8_clear_21 rfl (lv_at hl 1 rfl) ?_
    obtain ⟨hi4, hf⟩ := ifn hf
    refine aM_3 C G hi4 dX8_clear_22 ?_
    obtain ⟨y5, ey5, hf⟩ := stv_e hf
    refine nm_i ey5 ?_
    refine lv_istore_n (lv' := [(2, .int y5), (0, .ref (a 0)), (1, .int p1)]) C.1 C.2.1 dX8_clear_23 rfl hl (by decide) rfl (fun ls hl => ?_)
    refine lv_aload_n C.1 C.2.1 dX8_clear_24 rfl (lv_at hl 1 rfl) ?_
    refine gM_0_3 C G k_761 dX8_clear_25 ?_
    refine lv_iload_n C.1 C.2.1 dX8_clear_28 rfl (lv_at hl 2 rfl) ?_
    refine lv_iconst (v := 0) C.1 C.2.1 dX8_clear_29 (by decide) ?_
    obtain ⟨hi6, hf⟩ := ifn hf
    refine sM_3 C G hi6 dX8_clear_30 (fun H locs G => ?_)
    obtain ⟨S6, eS6, hf⟩ := stp_e hf
    rw [← eS6] at G
    clear eS6
    refine lv_iload_n C.1 C.2.1 dX8_clear_31 rfl (lv_at hl 0 rfl) ?_
    exact r_iret C hr G hf dX8_clear_32
  · replace hf := ifp c3 hf
    refine lv_iconst (v := (-1)) C.1 C.2.1 dX8_clear_15 (by decide) ?_
    exact r_iret C hr G hf dX8_clear_16
set_option maxRecDepth 100000 in
set_option maxHeartbeats 4000000 in
theorem mX8_lay_0 (l : Launch) (D : va_G) (a : Nat → Nat) (cI cJ : ClassId) (tk : Nat) (tf : Nat → Int32) (p1 : Int32) (p2 : Int32) (S : St) (x : Int32 × St) (hf : fX8_lay_0 p1 p2 S = some x) : Mv l D (wM a cI cJ) a 17 cI cJ tk tf yX8_lay cX8_lay 3 { frames := 0, cells := 0, slots := 0, locals := 0 } [.ref (a 0), .int p1, .int p2] S x := by
  refine opn_v (by decide +kernel) (Nat.le_of_ble_eq_true rfl) (fun p e s m below meth c C hr G ls hl => ?_)
  replace hl : lv_has ls 3 [(0, .ref (a 0)), (1, .int p1), (2, .int p2)] := hl
  unfold fX8_lay_0 at hf
  refine lv_aload_n C.1 C.2.1 dX8_lay_0 rfl (lv_at hl 0 rfl) ?_
  refine gM_0_4 C G k_762 dX8_lay_1 ?_
  refine lv_aload_n C.1 C.2.1 dX8_lay_4 rfl (lv_at hl 0 rfl) ?_
  refine gM_0_6 C G k_764 dX8_lay_5 ?_
  refine lv_iload_n C.1 C.2.1 dX8_lay_8 rfl (lv_at hl 1 rfl) ?_
  obtain ⟨hi1, hf⟩ := ifn hf
  refine sM_4 C G hi1 dX8_lay_9 (fun H locs G => ?_)
  obtain ⟨S1, eS1, hf⟩ := stp_e hf
  rw [← eS1] at G
  clear eS1
  refine lv_aload_n C.1 C.2.1 dX8_lay_10 rfl (lv_at hl 0 rfl) ?_
  refine gM_0_5 C G k_763 dX8_lay_11 ?_
  refine lv_aload_n C.1 C.2.1 dX8_lay_14 rfl (lv_at hl 0 rfl) ?_
  refine gM_0_6 C G k_764 dX8_lay_15 ?_
  refine lv_iload_n C.1 C.2.1 dX8_lay_18 rfl (lv_at hl 2 rfl) ?_
  obtain ⟨hi2, hf⟩ := ifn hf
  refine sM_5 C G hi2 dX8_lay_19 (fun H locs G => ?_)
  obtain ⟨S2, eS2, hf⟩ := stp_e hf
  rw [← eS2] at G
  clear eS2
  refine lv_aload_n C.1 C.2.1 dX8_lay_20 rfl (lv_at hl 0 rfl) ?_
  refine lv_dup C.1 C.2.1 dX8_lay_21 rfl ?_
  refine gM_0_6 C G k_764 dX8_lay_22 ?_
  refine lv_iconst (v := 1) C.1 C.2.1 dX8_lay_25 (by decide) ?_
  refine lv_iadd C.1 C.2.1 dX8_lay_26 ?_
  refine pM_0_6 C G k_764 dX8_lay_27 (fun H locs G => ?_)
  obtain ⟨S3, eS3, hf⟩ := stp_e hf
  rw [← eS3] at G
  clear eS3
  exact r_vret C hr G hf dX8_lay_30
set_option maxRecDepth 100000 in
set_option maxHeartbeats 4000000 in
theorem mX8_push_0 (l : Launch) (D : va_G) (a : Nat → Nat) (cI cJ : ClassId) (tk : Nat) (tf : Nat → Int32) (p1 : Int32) (p2 : Int32) (S : St) (x : Int32 × St) (hf : fX8_push_0 p1 p2 S = some x) : Mi l D (wM a cI cJ) a 17 cI cJ tk tf yX8_push cX8_push 3 (some .int) { frames := 2, cells := 0, slots := 0, locals := 43 } [.ref (a 0), .int p1, .int p2] S x := by
  refine opn_i (by decide +kernel) (Nat.le_of_ble_eq_true rfl) (fun p e s m below meth c C hr G ls hl => ?_)
  replace hl : lv_has ls 3 [(0, .ref (a 0)), (1, .int p1), (2, .int p2)] := hl
  unfold fX8_push_0 at hf
  refine lv_aload_n C.1 C.2.1 dX8_push_0 rfl (lv_at hl 0 rfl) ?_
  refine lv_iconst (v := 0) C.1 C.2.1 dX8_push_1 (by decide) ?_
  refine pM_0_0 C G k_758 dX8_push_2 (fun H locs G => ?_)
  obtain ⟨S1, eS1, hf⟩ := stp_e hf
  rw [← eS1] at G
  clear eS1
  refine lv_iload_n C.1 C.2.1 dX8_push_5 rfl (lv_at hl 1 rfl) ?_
  refine lv_iconst (v := 0) C.1 C.2.1 dX8_push_6 (by decide) ?_
  refine lv_iconst (v := 4) C.1 C.2.1 dX8_push_7 (by decide) ?_
  obtain ⟨r2, S2, eS2, hf⟩ := bnd_e hf
  refine r_cals (As := [.int p1, .int (0 : Int32), .int (4 : Int32)]) (na := 3) C adM G (mX8_in l D a cI cJ tk tf p1 (0 : Int32) (4 : Int32) S1 _ eS2) k_857 k_858 k_68 k_859 (by decide +kernel) ⟨Nat.le_of_ble_eq_true rfl, Nat.le_of_ble_eq_true rfl⟩ rfl rfl ⟨Nat.zero_le _, Nat.zero_le _⟩ rfl hl.1 rfl (Nat.le_of_ble_eq_true rfl) dX8_push_8 (fun H locs G => ?_)
  refine lv_if_ne (tgt := 16) C.1 C.2.1 dX8_push_11 (by decide) (fun c3 => ?_) (fun c3 => ?_)
  · replace hf := ifq c3 hf
    refine lv_iload_n C.1 C.2.1 dX8_push_16 rfl (lv_at hl 1 rfl) ?_
    refine lv_iload_n C.1 C.2.1 dX8_push_17 rfl (lv_at hl 2 rfl) ?_
    obtain ⟨r4, S4, eS4, hf⟩ := bnd_e hf
    refine r_cals (As := [.int p1, .int p2]) (na := 2) C adM G (mX8_fits l D a cI cJ tk tf p1 p2 S2 _ eS4) k_860 k_861 k_68 k_862 (by decide +kernel) ⟨Nat.le_of_ble_eq_true rfl, Nat.le_of_ble_eq_true rfl⟩ rfl rfl ⟨Nat.zero_le _, Nat.zero_le _⟩ rfl hl.1 rfl (Nat.le_of_ble_eq_true rfl) dX8_push_18 (fun H locs G => ?_)
    refine lv_if_ne (tgt := 27) C.1 C.2.1 dX8_push_21 (by decide) (fun c5 => ?_) (fun c5 => ?_)
    · replace hf := ifq c5 hf
      refine lv_aload_n C.1 C.2.1 dX8_push_27 rfl (lv_at hl 0 rfl) ?_
      refine gM_0_6 C G k_764 dX8_push_28 ?_
      refine lv_bipush (v := 60) C.1 C.2.1 dX8_push_31 (by decide) ?_
      refine lv_icmp_ne (tgt := 39) C.1 C.2.1 dX8_push_33 (by decide) (fun c6 => ?_) (fun c6 => ?_)
      · replace hf := ifq c6 hf
        refine lv_aload_n C.1 C.2.1 dX8_push_39 rfl (lv_at hl 0 rfl) ?_
        refine lv_iload_n C.1 C.2.1 dX8_push_40 rfl (lv_at hl 1 rfl) ?_
        refine lv_iload_n C.1 C.2.1 dX8_push_41 rfl (lv_at hl 2 rfl) ?_
        obtain ⟨r7, S7, eS7, hf⟩ := bnd_e hf
        refine r_calv (As := [.int p1, .int p2]) (na := 2) C adM G (mX8_lay_0 l D a cI cJ tk tf p1 p2 S4 _ eS7) k_871 k_873 k_31 k_68 k_874 (q0 := 0) rfl (ci := 8) rfl (by decide +kernel) ⟨Nat.le_of_ble_eq_true rfl, Nat.le_of_ble_eq_true rfl⟩ rfl rfl ⟨Nat.zero_le _, Nat.zero_le _⟩ rfl hl.1 rfl (Nat.le_of_ble_eq_true rfl) dX8_push_42 (fun H locs G => ?_)
        refine lv_aload_n C.1 C.2.1 dX8_push_45 rfl (lv_at hl 0 rfl) ?_
        refine gM_0_6 C G k_764 dX8_push_46 ?_
        exact r_iret C hr G hf dX8_push_49
      · replace hf := ifp c6 hf
        refine lv_bipush (v := (-4)) C.1 C.2.1 dX8_push_36 (by decide) ?_
        exact r_iret C hr G hf dX8_push_38
    · replace hf := ifp c5 hf
      refine lv_bipush (v := (-2)) C.1 C.2.1 dX8_push_24 (by decide) ?_
      exact r_iret C hr G hf dX8_push_26
  · replace hf := ifp c3 hf
    refine lv_iconst (v := (-1)) C.1 C.2.1 dX8_push_14 (by decide) ?_
    exact r_iret C hr G hf dX8_push_15
set_option maxRecDepth 100000 in
set_option maxHeartbeats 4000000 in
theorem mX8_drop_0 (l : Launch) (D : va_G) (a : Nat → Nat) (cI cJ : ClassId) (tk : Nat) (tf : Nat → Int32) (S : St) (x : Int32 × St) (hf : fX8_drop_0 S = some x) : Mi l D (wM a cI cJ) a 17 cI cJ tk tf yX8_drop cX8_drop 2 (some .int) { frames := 0, cells := 0, slots := 0, locals := 0 } [.ref (a 0)] S x := by
  refine opn_i (by decide +kernel) (Nat.le_of_ble_eq_true rfl) (fun p e s m below meth c C hr G ls hl => ?_)
  replace hl : lv_has ls 2 [(0, .ref (a 0))] := hl
  unfold fX8_drop_0 at hf
  refine lv_aload_n C.1 C.2.1 dX8_drop_0 rfl (lv_at hl 0 rfl) ?_
  refine lv_iconst (v := 0) C.1 C.2.1 dX8_drop_1 (by decide) ?_
  refine pM_0_0 C G k_758 dX8_drop_2 (fun H locs G => ?_)
  obtain ⟨S1, eS1, hf⟩ := stp_e hf
  rw [← eS1] at G
  clear eS1
  refine lv_aload_n C.1 C.2.1 dX8_drop_5 rfl (lv_at hl 0 rfl) ?_
  refine gM_0_6 C G k_764 dX8_drop_6 ?_
  obtain ⟨y2, ey2, hf⟩ := stv_e hf
  refine nm_i ey2 ?_
  refine lv_istore_n (lv' := [(1, .int y2), (0, .ref (a 0))]) C.1 C.2.1 dX8_drop_9 rfl hl (by decide) rfl (fun ls hl => ?_)
  refine lv_aload_n C.1 C.2.1 dX8_drop_10 rfl (lv_at hl 1 rfl) ?_
  refine lv_iconst (v := 0) C.1 C.2.1 dX8_drop_11 (by decide) ?_
  refine pM_0_6 C G k_764 dX8_drop_12 (fun H locs G => ?_)
  obtain ⟨S3, eS3, hf⟩ := stp_e hf
  rw [← eS3] at G
  clear eS3
  refine lv_iload_n C.1 C.2.1 dX8_drop_15 rfl (lv_at hl 0 rfl) ?_
  exact r_iret C hr G hf dX8_drop_16
set_option maxRecDepth 100000 in
set_option maxHeartbeats 4000000 in
theorem rX8_come_0_63 {p : Program} {l : Launch} {e : Env} {s : State} {m : MethodId} {args : Array Value} {below : List Frame} {meth : Method} {c : Code} {D : va_G} {a : Nat → Nat} {cI cJ : ClassId} {tk : Nat} {tf : Nat → Int32} (C : Cx p s m args meth c RX8 cX8_come 3 D cI cJ tk tf (AR a 17 s.heap.size)) (hr : meth.sig.returnType = none) : ∀ (z1 : Int32) (S : St) (x : Int32 × St) (H : Heap) (locs : List Loc) (ls : Array Slot), fX8_come_0_63 z1 S = some x → Wd D (wM a cI cJ) (AR a 17 s.heap.size) s S H locs → lv_has ls 3 [] → W p l e { frames := 0, cells := 0, slots := 0, locals := 0 } s m args below meth c H locs 0 0 (MQ below (Qv D (wM a cI cJ) (AR a 17 s.heap.size) x) args s 0 0 (AR a 17 s.heap.size)) (F0 m 63 ls [.int z1, .ref (a 0)]) := by
  intro z1 S x H locs ls hf G hl
  unfold fX8_come_0_63 at hf
  refine pM_0_27 C G k_785 dX8_come_63 (fun H locs G => ?_)
  obtain ⟨S1, eS1, hf⟩ := stp_e hf
  rw [← eS1] at G
  clear eS1
  exact r_vret C hr G hf dX8_come_66
set_option maxRecDepth 100000 in
set_option maxHeartbeats 4000000 in
theorem mX8_come_0 (l : Launch) (D : va_G) (a : Nat → Nat) (cI cJ : ClassId) (tk : Nat) (tf : Nat → Int32) (p1 : Int32) (p2 : Int32) (S : St) (x : Int32 × St) (hf : fX8_come_0 p1 p2 S = some x) : Mv l D (wM a cI cJ) a 17 cI cJ tk tf yX8_come cX8_come 3 { frames := 0, cells := 0, slots := 0, locals := 0 } [.ref (a 0), .int p1, .int p2] S x := by
  refine opn_v (by decide +kernel) (Nat.le_of_ble_eq_true rfl) (fun p e s m below meth c C hr G ls hl => ?_)
  replace hl : lv_has ls 3 [(0, .ref (a 0)), (1, .int p1), (2, .int p2)] := hl
  unfold fX8_come_0 at hf
  refine lv_aload_n C.1 C.2.1 dX8_come_0 rfl (lv_at hl 0 rfl) ?_
  refine gM_0_20 C G k_778 dX8_come_1 ?_
  refine lv_aload_n C.1 C.2.1 dX8_come_4 rfl (lv_at hl 0 rfl) ?_
  refine gM_0_19 C G k_777 dX8_come_5 ?_
  refine lv_iload_n C.1 C.2.1 dX8_come_8 rfl (lv_at hl 1 rfl) ?_
  obtain ⟨hi1, hf⟩ := ifn hf
  refine sM_11 C G hi1 dX8_come_9 (fun H locs G => ?_)
  obtain ⟨S1, eS1, hf⟩ := stp_e hf
  rw [← eS1] at G
  clear eS1
  refine lv_aload_n C.1 C.2.1 dX8_come_10 rfl (lv_at hl 0 rfl) ?_
  refine gM_0_21 C G k_779 dX8_come_11 ?_
  refine lv_aload_n C.1 C.2.1 dX8_come_14 rfl (lv_at hl 0 rfl) ?_
  refine gM_0_19 C G k_777 dX8_come_15 ?_
  refine lv_iload_n C.1 C.2.1 dX8_come_18 rfl (lv_at hl 2 rfl) ?_
  obtain ⟨hi2, hf⟩ := ifn hf
  refine sM_12 C G hi2 dX8_come_19 (fun H locs G => ?_)
  obtain ⟨S2, eS2, hf⟩ := stp_e hf
  rw [← eS2] at G
  clear eS2
  refine lv_aload_n C.1 C.2.1 dX8_come_20 rfl (lv_at hl 0 rfl) ?_
  refine gM_0_22 C G k_780 dX8_come_21 ?_
  refine lv_aload_n C.1 C.2.1 dX8_come_24 rfl (lv_at hl 0 rfl) ?_
  refine gM_0_19 C G k_777 dX8_come_25 ?_
  refine lv_iconst (v := 0) C.1 C.2.1 dX8_come_28 (by decide) ?_
  obtain ⟨hi3, hf⟩ := ifn hf
  refine sM_13 C G hi3 dX8_come_29 (fun H locs G => ?_)
  obtain ⟨S3, eS3, hf⟩ := stp_e hf
  rw [← eS3] at G
  clear eS3
  refine lv_aload_n C.1 C.2.1 dX8_come_30 rfl (lv_at hl 0 rfl) ?_
  refine lv_dup C.1 C.2.1 dX8_come_31 rfl ?_
  refine gM_0_19 C G k_777 dX8_come_32 ?_
  refine lv_iconst (v := 1) C.1 C.2.1 dX8_come_35 (by decide) ?_
  refine lv_iadd C.1 C.2.1 dX8_come_36 ?_
  refine pM_0_19 C G k_777 dX8_come_37 (fun H locs G => ?_)
  obtain ⟨S4, eS4, hf⟩ := stp_e hf
  rw [← eS4] at G
  clear eS4
  refine lv_aload_n C.1 C.2.1 dX8_come_40 rfl (lv_at hl 0 rfl) ?_
  refine lv_aload_n C.1 C.2.1 dX8_come_41 rfl (lv_at hl 0 rfl) ?_
  refine gM_0_19 C G k_777 dX8_come_42 ?_
  refine lv_aload_n C.1 C.2.1 dX8_come_45 rfl (lv_at hl 0 rfl) ?_
  refine gM_0_27 C G k_785 dX8_come_46 ?_
  refine lv_icmp_le (tgt := 59) C.1 C.2.1 dX8_come_49 (by decide) (fun c5 => ?_) (fun c5 => ?_)
  · replace hf := ifp c5 hf
    refine lv_aload_n C.1 C.2.1 dX8_come_59 rfl (lv_at hl 0 rfl) ?_
    refine gM_0_27 C G k_785 dX8_come_60 ?_
    exact rX8_come_0_63 C hr (S4.1 0 27) S4 _ _ _ _ hf G (lv_sub hl [] rfl)
  · replace hf := ifq c5 hf
    refine lv_aload_n C.1 C.2.1 dX8_come_52 rfl (lv_at hl 0 rfl) ?_
    refine gM_0_19 C G k_777 dX8_come_53 ?_
    refine lv_goto (tgt := 63) C.1 C.2.1 dX8_come_56 (by decide) ?_
    exact rX8_come_0_63 C hr (S4.1 0 19) S4 _ _ _ _ hf G (lv_sub hl [] rfl)
set_option maxRecDepth 100000 in
set_option maxHeartbeats 4000000 in
theorem rX8_stop_0_77 {p : Program} {l : Launch} {e : Env} {s : State} {m : MethodId} {args : Array Value} {below : List Frame} {meth : Method} {c : Code} {D : va_G} {a : Nat → Nat} {cI cJ : ClassId} {tk : Nat} {tf : Nat → Int32} (C : Cx p s m args meth c RX8 cX8_stop 2 D cI cJ tk tf (AR a 17 s.heap.size)) (hr : meth.sig.returnType = none) : ∀ (z1 : Int32) (S : St) (x : Int32 × St) (H : Heap) (locs : List Loc) (ls : Array Slot), fX8_stop_0_77 z1 S = some x → Wd D (wM a cI cJ) (AR a 17 s.heap.size) s S H locs → lv_has ls 2 [(0, .ref (a 0))] → W p l e { frames := 1, cells := 0, slots := 0, locals := 22 } s m args below meth c H locs 0 0 (MQ below (Qv D (wM a cI cJ) (AR a 17 s.heap.size) x) args s 0 0 (AR a 17 s.heap.size)) (F0 m 77 ls [.int z1, .ref (a 0)]) := by
  intro z1 S x H locs ls hf G hl
  unfold fX8_stop_0_77 at hf
  refine pM_0_6 C G k_764 dX8_stop_77 (fun H locs G => ?_)
  obtain ⟨S1, eS1, hf⟩ := stp_e hf
  rw [← eS1] at G
  clear eS1
  refine lv_aload_n C.1 C.2.1 dX8_stop_80 rfl (lv_at hl 0 rfl) ?_
  refine lv_iconst (v := 1) C.1 C.2.1 dX8_stop_81 (by decide) ?_
  refine lv_iconst (v := 1) C.1 C.2.1 dX8_stop_82 (by decide) ?_
  obtain ⟨r2, S2, eS2, hf⟩ := bnd_e hf
  refine r_calv (As := [.int (1 : Int32), .int (1 : Int32)]) (na := 2) C adM G (mX8_lay_0 l D a cI cJ tk tf (1 : Int32) (1 : Int32) S1 _ eS2) k_871 k_873 k_31 k_68 k_874 (q0 := 0) rfl (ci := 8) rfl (by decide +kernel) ⟨Nat.le_of_ble_eq_true rfl, Nat.le_of_ble_eq_true rfl⟩ rfl rfl ⟨Nat.zero_le _, Nat.zero_le _⟩ rfl hl.1 rfl (Nat.le_of_ble_eq_true rfl) dX8_stop_83 (fun H locs G => ?_)
  exact r_vret C hr G hf dX8_stop_86
set_option maxRecDepth 100000 in
set_option maxHeartbeats 4000000 in
theorem rX8_stop_0_35 {p : Program} {l : Launch} {e : Env} {s : State} {m : MethodId} {args : Array Value} {below : List Frame} {meth : Method} {c : Code} {D : va_G} {a : Nat → Nat} {cI cJ : ClassId} {tk : Nat} {tf : Nat → Int32} (C : Cx p s m args meth c RX8 cX8_stop 2 D cI cJ tk tf (AR a 17 s.heap.size)) (hr : meth.sig.returnType = none) : ∀ (q1 : Int32) (S : St) (x : Int32 × St) (H : Heap) (locs : List Loc) (ls : Array Slot), fX8_stop_0_35 q1 S = some x → Wd D (wM a cI cJ) (AR a 17 s.heap.size) s S H locs → lv_has ls 2 [(0, .ref (a 0)), (1, .int q1)] → W p l e { frames := 1, cells := 0, slots := 0, locals := 22 } s m args below meth c H locs 0 0 (MQ below (Qv D (wM a cI cJ) (AR a 17 s.heap.size) x) args s 0 0 (AR a 17 s.heap.size)) (F0 m 35 ls []) := by
  intro q1 S x H locs ls hf G hl
  unfold fX8_stop_0_35 at hf
  refine lv_aload_n C.1 C.2.1 dX8_stop_35 rfl (lv_at hl 0 rfl) ?_
  refine gM_0_19 C G k_777 dX8_stop_36 ?_
  refine lv_if_ne (tgt := 48) C.1 C.2.1 dX8_stop_39 (by decide) (fun c1 => ?_) (fun c1 => ?_)
  · replace hf := ifq c1 hf
    refine lv_aload_n C.1 C.2.1 dX8_stop_48 rfl (lv_at hl 0 rfl) ?_
    refine lv_dup C.1 C.2.1 dX8_stop_49 rfl ?_
    refine gM_0_19 C G k_777 dX8_stop_50 ?_
    refine lv_iconst (v := 1) C.1 C.2.1 dX8_stop_53 (by decide) ?_
    refine lv_isub C.1 C.2.1 dX8_stop_54 ?_
    refine pM_0_19 C G k_777 dX8_stop_55 (fun H locs G => ?_)
    obtain ⟨S3, eS3, hf⟩ := stp_e hf
    rw [← eS3] at G
    clear eS3
    refine lv_aload_n C.1 C.2.1 dX8_stop_58 rfl (lv_at hl 0 rfl) ?_
    refine lv_aload_n C.1 C.2.1 dX8_stop_59 rfl (lv_at hl 0 rfl) ?_
    refine gM_0_6 C G k_764 dX8_stop_60 ?_
    refine lv_bipush (v := 60) C.1 C.2.1 dX8_stop_63 (by decide) ?_
    refine lv_icmp_ne (tgt := 73) C.1 C.2.1 dX8_stop_65 (by decide) (fun c4 => ?_) (fun c4 => ?_)
    · replace hf := ifq c4 hf
      refine lv_aload_n C.1 C.2.1 dX8_stop_73 rfl (lv_at hl 0 rfl) ?_
      refine gM_0_6 C G k_764 dX8_stop_74 ?_
      exact rX8_stop_0_77 C hr (S3.1 0 6) S3 _ _ _ _ hf G (lv_sub hl [0] rfl)
    · replace hf := ifp c4 hf
      refine lv_bipush (v := 59) C.1 C.2.1 dX8_stop_68 (by decide) ?_
      refine lv_goto (tgt := 77) C.1 C.2.1 dX8_stop_70 (by decide) ?_
      exact rX8_stop_0_77 C hr (59 : Int32) S3 _ _ _ _ hf G (lv_sub hl [0] rfl)
  · replace hf := ifp c1 hf
    refine lv_aload_n C.1 C.2.1 dX8_stop_42 rfl (lv_at hl 0 rfl) ?_
    refine lv_iload_n C.1 C.2.1 dX8_stop_43 rfl (lv_at hl 1 rfl) ?_
    refine pM_0_29 C G k_787 dX8_stop_44 (fun H locs G => ?_)
    obtain ⟨S2, eS2, hf⟩ := stp_e hf
    rw [← eS2] at G
    clear eS2
    exact r_vret C hr G hf dX8_stop_47
set_option maxRecDepth 100000 in
set_option maxHeartbeats 4000000 in
theorem rX8_stop_0_0 {p : Program} {l : Launch} {e : Env} {s : State} {m : MethodId} {args : Array Value} {below : List Frame} {meth : Method} {c : Code} {D : va_G} {a : Nat → Nat} {cI cJ : ClassId} {tk : Nat} {tf : Nat → Int32} (C : Cx p s m args meth c RX8 cX8_stop 2 D cI cJ tk tf (AR a 17 s.heap.size)) (hr : meth.sig.returnType = none) : ∀ (n : Nat) (q1 : Int32) (S : St) (x : Int32 × St) (H : Heap) (locs : List Loc) (ls : Array Slot), fX8_stop_0_0 n q1 S = some x → Wd D (wM a cI cJ) (AR a 17 s.heap.size) s S H locs → lv_has ls 2 [(0, .ref (a 0)), (1, .int q1)] → W p l e { frames := 1, cells := 0, slots := 0, locals := 22 } s m args below meth c H locs 0 0 (MQ below (Qv D (wM a cI cJ) (AR a 17 s.heap.size) x) args s 0 0 (AR a 17 s.heap.size)) (F0 m 0 ls []) := by
  intro n
  induction n with
  | zero => intro q1 S x H locs ls hf G hl; cases hf
  | succ n ih =>
    intro q1 S x H locs ls hf G hl
    rw [fX8_stop_0_0.eq_2] at hf
    refine lv_aload_n C.1 C.2.1 dX8_stop_0 rfl (lv_at hl 0 rfl) ?_
    refine gM_0_19 C G k_777 dX8_stop_1 ?_
    refine lv_if_le (tgt := 35) C.1 C.2.1 dX8_stop_4 (by decide) (fun c1 => ?_) (fun c1 => ?_)
    · replace hf := ifp c1 hf
      exact rX8_stop_0_35 C hr q1 S _ _ _ _ hf G (lv_sub hl [0, 1] rfl)
    · replace hf := ifq c1 hf
      refine lv_aload_n C.1 C.2.1 dX8_stop_7 rfl (lv_at hl 0 rfl) ?_
      refine gM_0_20 C G k_778 dX8_stop_8 ?_
      refine lv_aload_n C.1 C.2.1 dX8_stop_11 rfl (lv_at hl 0 rfl) ?_
      refine gM_0_19 C G k_777 dX8_stop_12 ?_
      refine lv_iconst (v := 1) C.1 C.2.1 dX8_stop_15 (by decide) ?_
      refine lv_isub C.1 C.2.1 dX8_stop_16 ?_
      obtain ⟨hi2, hf⟩ := ifn hf
      refine aM_11 C G hi2 dX8_stop_17 ?_
      refine lv_iconst (v := 4) C.1 C.2.1 dX8_stop_18 (by decide) ?_
      refine lv_icmp_eq (tgt := 35) C.1 C.2.1 dX8_stop_19 (by decide) (fun c3 => ?_) (fun c3 => ?_)
      · replace hf := ifp c3 hf
        exact rX8_stop_0_35 C hr q1 S _ _ _ _ hf G (lv_sub hl [0, 1] rfl)
      · replace hf := ifq c3 hf
        refine lv_aload_n C.1 C.2.1 dX8_stop_22 rfl (lv_at hl 0 rfl) ?_
        refine lv_dup C.1 C.2.1 dX8_stop_23 rfl ?_
        refine gM_0_19 C G k_777 dX8_stop_24 ?_
        refine lv_iconst (v := 1) C.1 C.2.1 dX8_stop_27 (by decide) ?_
        refine lv_isub C.1 C.2.1 dX8_stop_28 ?_
        refine pM_0_19 C G k_777 dX8_stop_29 (fun H locs G => ?_)
        obtain ⟨S4, eS4, hf⟩ := stp_e hf
        rw [← eS4] at G
        clear eS4
        refine lv_goto (tgt := 0) C.1 C.2.1 dX8_stop_32 (by decide) ?_
        exact ih q1 S4 _ _ _ _ hf G (lv_sub hl [0, 1] rfl)
set_option maxRecDepth 100000 in
set_option maxHeartbeats 4000000 in
theorem mX8_stop_0 (l : Launch) (D : va_G) (a : Nat → Nat) (cI cJ : ClassId) (tk : Nat) (tf : Nat → Int32) (p1 : Int32) (S : St) (x : Int32 × St) (hf : fX8_stop_0 p1 S = some x) : Mv l D (wM a cI cJ) a 17 cI cJ tk tf yX8_stop cX8_stop 2 { frames := 1, cells := 0, slots := 0, locals := 22 } [.ref (a 0), .int p1] S x := by
  refine opn_v (by decide +kernel) (Nat.le_of_ble_eq_true rfl) (fun p e s m below meth c C hr G ls hl => ?_)
  replace hl : lv_has ls 2 [(0, .ref (a 0)), (1, .int p1)] := hl
  unfold fX8_stop_0 at hf
  exact rX8_stop_0_0 C hr 500 p1 S _ _ _ _ hf G (lv_sub hl [0, 1] rfl)
