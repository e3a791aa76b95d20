theorem dX4_has_0 : decode cX4_has 0 = .ok (.iload_n 1, 1) := by decide +kernel
theorem dX4_has_1 : decode cX4_has 1 = .ok (.ifCond .lt 13, 3) := by decide +kernel
theorem dX4_has_4 : decode cX4_has 4 = .ok (.iload_n 1, 1) := by decide +kernel
theorem dX4_has_5 : decode cX4_has 5 = .ok (.bipush 20, 2) := by decide +kernel
theorem dX4_has_7 : decode cX4_has 7 = .ok (.if_icmp .ge 7, 3) := by decide +kernel
theorem dX4_has_10 : decode cX4_has 10 = .ok (.iconst 1, 1) := by decide +kernel
theorem dX4_has_11 : decode cX4_has 11 = .ok (.goto 4, 3) := by decide +kernel
theorem dX4_has_14 : decode cX4_has 14 = .ok (.iconst 0, 1) := by decide +kernel
theorem dX4_has_15 : decode cX4_has 15 = .ok (.ireturn, 1) := by decide +kernel
theorem dX7_isOfKind_0 : decode cX7_isOfKind 0 = .ok (.iload_n 0, 1) := by decide +kernel
theorem dX7_isOfKind_1 : decode cX7_isOfKind 1 = .ok (.tableswitch 114 0 5 #[39, 41, 56, 72, 82, 98], 39) := by decide +kernel
theorem dX7_isOfKind_40 : decode cX7_isOfKind 40 = .ok (.iconst 1, 1) := by decide +kernel
theorem dX7_isOfKind_41 : decode cX7_isOfKind 41 = .ok (.ireturn, 1) := by decide +kernel
theorem dX7_isOfKind_42 : decode cX7_isOfKind 42 = .ok (.iload_n 1, 1) := by decide +kernel
theorem dX7_isOfKind_43 : decode cX7_isOfKind 43 = .ok (.ifCond .eq 8, 3) := by decide +kernel
theorem dX7_isOfKind_46 : decode cX7_isOfKind 46 = .ok (.iload_n 1, 1) := by decide +kernel
theorem dX7_isOfKind_47 : decode cX7_isOfKind 47 = .ok (.iconst 1, 1) := by decide +kernel
theorem dX7_isOfKind_48 : decode cX7_isOfKind 48 = .ok (.if_icmp .ne 7, 3) := by decide +kernel
theorem dX7_isOfKind_51 : decode cX7_isOfKind 51 = .ok (.iconst 1, 1) := by decide +kernel
theorem dX7_isOfKind_52 : decode cX7_isOfKind 52 = .ok (.goto 4, 3) := by decide +kernel
theorem dX7_isOfKind_55 : decode cX7_isOfKind 55 = .ok (.iconst 0, 1) := by decide +kernel
theorem dX7_isOfKind_56 : decode cX7_isOfKind 56 = .ok (.ireturn, 1) := by decide +kernel
theorem dX7_isOfKind_57 : decode cX7_isOfKind 57 = .ok (.iload_n 1, 1) := by decide +kernel
theorem dX7_isOfKind_58 : decode cX7_isOfKind 58 = .ok (.ifCond .lt 13, 3) := by decide +kernel
theorem dX7_isOfKind_61 : decode cX7_isOfKind 61 = .ok (.iload_n 1, 1) := by decide +kernel
theorem dX7_isOfKind_62 : decode cX7_isOfKind 62 = .ok (.bipush 40, 2) := by decide +kernel
theorem dX7_isOfKind_64 : decode cX7_isOfKind 64 = .ok (.if_icmp .ge 7, 3) := by decide +kernel
theorem dX7_isOfKind_67 : decode cX7_isOfKind 67 = .ok (.iconst 1, 1) := by decide +kernel
theorem dX7_isOfKind_68 : decode cX7_isOfKind 68 = .ok (.goto 4, 3) := by decide +kernel
theorem dX7_isOfKind_71 : decode cX7_isOfKind 71 = .ok (.iconst 0, 1) := by decide +kernel
theorem dX7_isOfKind_72 : decode cX7_isOfKind 72 = .ok (.ireturn, 1) := by decide +kernel
theorem dX7_isOfKind_73 : decode cX7_isOfKind 73 = .ok (.iload_n 1, 1) := by decide +kernel
theorem dX7_isOfKind_74 : decode cX7_isOfKind 74 = .ok (.ifCond .ne 7, 3) := by decide +kernel
theorem dX7_isOfKind_77 : decode cX7_isOfKind 77 = .ok (.iconst 1, 1) := by decide +kernel
theorem dX7_isOfKind_78 : decode cX7_isOfKind 78 = .ok (.goto 4, 3) := by decide +kernel
theorem dX7_isOfKind_81 : decode cX7_isOfKind 81 = .ok (.iconst 0, 1) := by decide +kernel
theorem dX7_isOfKind_82 : decode cX7_isOfKind 82 = .ok (.ireturn, 1) := by decide +kernel
theorem dX7_isOfKind_83 : decode cX7_isOfKind 83 = .ok (.iload_n 1, 1) := by decide +kernel
theorem dX7_isOfKind_84 : decode cX7_isOfKind 84 = .ok (.ifCond .lt 13, 3) := by decide +kernel
theorem dX7_isOfKind_87 : decode cX7_isOfKind 87 = .ok (.iload_n 1, 1) := by decide +kernel
theorem dX7_isOfKind_88 : decode cX7_isOfKind 88 = .ok (.bipush 20, 2) := by decide +kernel
theorem dX7_isOfKind_90 : decode cX7_isOfKind 90 = .ok (.if_icmp .ge 7, 3) := by decide +kernel
theorem dX7_isOfKind_93 : decode cX7_isOfKind 93 = .ok (.iconst 1, 1) := by decide +kernel
theorem dX7_isOfKind_94 : decode cX7_isOfKind 94 = .ok (.goto 4, 3) := by decide +kernel
theorem dX7_isOfKind_97 : decode cX7_isOfKind 97 = .ok (.iconst 0, 1) := by decide +kernel
theorem dX7_isOfKind_98 : decode cX7_isOfKind 98 = .ok (.ireturn, 1) := by decide +kernel
theorem dX7_isOfKind_99 : decode cX7_isOfKind 99 = .ok (.iload_n 1, 1) := by decide +kernel
theorem dX7_isOfKind_100 : decode cX7_isOfKind 100 = .ok (.ifCond .lt 13, 3) := by decide +kernel
theorem dX7_isOfKind_103 : decode cX7_isOfKind 103 = .ok (.iload_n 1, 1) := by decide +kernel
theorem dX7_isOfKind_104 : decode cX7_isOfKind 104 = .ok (.bipush 28, 2) := by decide +kernel
theorem dX7_isOfKind_106 : decode cX7_isOfKind 106 = .ok (.if_icmp .ge 7, 3) := by decide +kernel
theorem dX7_isOfKind_109 : decode cX7_isOfKind 109 = .ok (.iconst 1, 1) := by decide +kernel
theorem dX7_isOfKind_110 : decode cX7_isOfKind 110 = .ok (.goto 4, 3) := by decide +kernel
theorem dX7_isOfKind_113 : decode cX7_isOfKind 113 = .ok (.iconst 0, 1) := by decide +kernel
theorem dX7_isOfKind_114 : decode cX7_isOfKind 114 = .ok (.ireturn, 1) := by decide +kernel
theorem dX7_isOfKind_115 : decode cX7_isOfKind 115 = .ok (.iconst 0, 1) := by decide +kernel
theorem dX7_isOfKind_116 : decode cX7_isOfKind 116 = .ok (.ireturn, 1) := by decide +kernel
theorem dX4_length_0 : decode cX4_length 0 = .ok (.iload_n 1, 1) := by decide +kernel
theorem dX4_length_1 : decode cX4_length 1 = .ok (.ifCond .lt 18, 3) := by decide +kernel
theorem dX4_length_4 : decode cX4_length 4 = .ok (.iload_n 1, 1) := by decide +kernel
theorem dX4_length_5 : decode cX4_length 5 = .ok (.bipush 20, 2) := by decide +kernel
theorem dX4_length_7 : decode cX4_length 7 = .ok (.if_icmp .ge 12, 3) := by decide +kernel
theorem dX4_length_10 : decode cX4_length 10 = .ok (.aload_n 0, 1) := by decide +kernel
theorem dX4_length_11 : decode cX4_length 11 = .ok (.getfield 18, 3) := by decide +kernel
theorem dX4_length_14 : decode cX4_length 14 = .ok (.iload_n 1, 1) := by decide +kernel
theorem dX4_length_15 : decode cX4_length 15 = .ok (.iaload, 1) := by decide +kernel
theorem dX4_length_16 : decode cX4_length 16 = .ok (.goto 4, 3) := by decide +kernel
theorem dX4_length_19 : decode cX4_length 19 = .ok (.iconst 0, 1) := by decide +kernel
theorem dX4_length_20 : decode cX4_length 20 = .ok (.ireturn, 1) := by decide +kernel
theorem dX4_append_0 : decode cX4_append 0 = .ok (.aload_n 0, 1) := by decide +kernel
theorem dX4_append_1 : decode cX4_append 1 = .ok (.iload_n 1, 1) := by decide +kernel
theorem dX4_append_2 : decode cX4_append 2 = .ok (.invokevirtual 21, 3) := by decide +kernel
theorem dX4_append_5 : decode cX4_append 5 = .ok (.ifCond .eq 14, 3) := by decide +kernel
theorem dX4_append_8 : decode cX4_append 8 = .ok (.aload_n 0, 1) := by decide +kernel
theorem dX4_append_9 : decode cX4_append 9 = .ok (.getfield 18, 3) := by decide +kernel
theorem dX4_append_12 : decode cX4_append 12 = .ok (.iload_n 1, 1) := by decide +kernel
theorem dX4_append_13 : decode cX4_append 13 = .ok (.iaload, 1) := by decide +kernel
theorem dX4_append_14 : decode cX4_append 14 = .ok (.bipush 24, 2) := by decide +kernel
theorem dX4_append_16 : decode cX4_append 16 = .ok (.if_icmp .lt 5, 3) := by decide +kernel
theorem dX4_append_19 : decode cX4_append 19 = .ok (.iconst (-1), 1) := by decide +kernel
theorem dX4_append_20 : decode cX4_append 20 = .ok (.ireturn, 1) := by decide +kernel
theorem dX4_append_21 : decode cX4_append 21 = .ok (.iload_n 1, 1) := by decide +kernel
theorem dX4_append_22 : decode cX4_append 22 = .ok (.bipush 24, 2) := by decide +kernel
theorem dX4_append_24 : decode cX4_append 24 = .ok (.imul, 1) := by decide +kernel
theorem dX4_append_25 : decode cX4_append 25 = .ok (.aload_n 0, 1) := by decide +kernel
theorem dX4_append_26 : decode cX4_append 26 = .ok (.getfield 18, 3) := by decide +kernel
theorem dX4_append_29 : decode cX4_append 29 = .ok (.iload_n 1, 1) := by decide +kernel
theorem dX4_append_30 : decode cX4_append 30 = .ok (.iaload, 1) := by decide +kernel
theorem dX4_append_31 : decode cX4_append 31 = .ok (.iadd, 1) := by decide +kernel
theorem dX4_append_32 : decode cX4_append 32 = .ok (.istore 4, 2) := by decide +kernel
theorem dX4_append_34 : decode cX4_append 34 = .ok (.aload_n 0, 1) := by decide +kernel
theorem dX4_append_35 : decode cX4_append 35 = .ok (.getfield 9, 3) := by decide +kernel
theorem dX4_append_38 : decode cX4_append 38 = .ok (.iload 4, 2) := by decide +kernel
theorem dX4_append_40 : decode cX4_append 40 = .ok (.iload_n 2, 1) := by decide +kernel
theorem dX4_append_41 : decode cX4_append 41 = .ok (.iastore, 1) := by decide +kernel
theorem dX4_append_42 : decode cX4_append 42 = .ok (.aload_n 0, 1) := by decide +kernel
theorem dX4_append_43 : decode cX4_append 43 = .ok (.getfield 15, 3) := by decide +kernel
theorem dX4_append_46 : decode cX4_append 46 = .ok (.iload 4, 2) := by decide +kernel
theorem dX4_append_48 : decode cX4_append 48 = .ok (.iload_n 3, 1) := by decide +kernel
theorem dX4_append_49 : decode cX4_append 49 = .ok (.iastore, 1) := by decide +kernel
theorem dX4_append_50 : decode cX4_append 50 = .ok (.aload_n 0, 1) := by decide +kernel
theorem dX4_append_51 : decode cX4_append 51 = .ok (.getfield 18, 3) := by decide +kernel
theorem dX4_append_54 : decode cX4_append 54 = .ok (.iload_n 1, 1) := by decide +kernel
theorem dX4_append_55 : decode cX4_append 55 = .ok (.dup2, 1) := by decide +kernel
theorem dX4_append_56 : decode cX4_append 56 = .ok (.iaload, 1) := by decide +kernel
theorem dX4_append_57 : decode cX4_append 57 = .ok (.iconst 1, 1) := by decide +kernel
theorem dX4_append_58 : decode cX4_append 58 = .ok (.iadd, 1) := by decide +kernel
theorem dX4_append_59 : decode cX4_append 59 = .ok (.iastore, 1) := by decide +kernel
theorem dX4_append_60 : decode cX4_append 60 = .ok (.aload_n 0, 1) := by decide +kernel
theorem dX4_append_61 : decode cX4_append 61 = .ok (.getfield 18, 3) := by decide +kernel
theorem dX4_append_64 : decode cX4_append 64 = .ok (.iload_n 1, 1) := by decide +kernel
theorem dX4_append_65 : decode cX4_append 65 = .ok (.iaload, 1) := by decide +kernel
theorem dX4_append_66 : decode cX4_append 66 = .ok (.ireturn, 1) := by decide +kernel
theorem dX7_token_0 : decode cX7_token 0 = .ok (.aload_n 0, 1) := by decide +kernel
theorem dX7_token_1 : decode cX7_token 1 = .ok (.getfield 10, 3) := by decide +kernel
theorem dX7_token_4 : decode cX7_token 4 = .ok (.iload_n 1, 1) := by decide +kernel
theorem dX7_token_5 : decode cX7_token 5 = .ok (.invokevirtual 58, 3) := by decide +kernel
theorem dX7_token_8 : decode cX7_token 8 = .ok (.ifCond .eq 12, 3) := by decide +kernel
theorem dX7_token_11 : decode cX7_token 11 = .ok (.iload_n 2, 1) := by decide +kernel
theorem dX7_token_12 : decode cX7_token 12 = .ok (.ifCond .lt 8, 3) := by decide +kernel
theorem dX7_token_15 : decode cX7_token 15 = .ok (.iload_n 2, 1) := by decide +kernel
theorem dX7_token_16 : decode cX7_token 16 = .ok (.iconst 5, 1) := by decide +kernel
theorem dX7_token_17 : decode cX7_token 17 = .ok (.if_icmp .le 5, 3) := by decide +kernel
theorem dX7_token_20 : decode cX7_token 20 = .ok (.iconst (-1), 1) := by decide +kernel
theorem dX7_token_21 : decode cX7_token 21 = .ok (.ireturn, 1) := by decide +kernel
theorem dX7_token_22 : decode cX7_token 22 = .ok (.iload_n 2, 1) := by decide +kernel
theorem dX7_token_23 : decode cX7_token 23 = .ok (.iload_n 3, 1) := by decide +kernel
theorem dX7_token_24 : decode cX7_token 24 = .ok (.invokestatic 62, 3) := by decide +kernel
theorem dX7_token_27 : decode cX7_token 27 = .ok (.ifCond .ne 6, 3) := by decide +kernel
theorem dX7_token_30 : decode cX7_token 30 = .ok (.bipush (-2), 2) := by decide +kernel
theorem dX7_token_32 : decode cX7_token 32 = .ok (.ireturn, 1) := by decide +kernel
theorem dX7_token_33 : decode cX7_token 33 = .ok (.aload_n 0, 1) := by decide +kernel
theorem dX7_token_34 : decode cX7_token 34 = .ok (.getfield 10, 3) := by decide +kernel
theorem dX7_token_37 : decode cX7_token 37 = .ok (.iload_n 1, 1) := by decide +kernel
theorem dX7_token_38 : decode cX7_token 38 = .ok (.invokevirtual 66, 3) := by decide +kernel
theorem dX7_token_41 : decode cX7_token 41 = .ok (.bipush 24, 2) := by decide +kernel
theorem dX7_token_43 : decode cX7_token 43 = .ok (.if_icmp .lt 6, 3) := by decide +kernel
theorem dX7_token_46 : decode cX7_token 46 = .ok (.bipush (-4), 2) := by decide +kernel
theorem dX7_token_48 : decode cX7_token 48 = .ok (.ireturn, 1) := by decide +kernel
theorem dX7_token_49 : decode cX7_token 49 = .ok (.aload_n 0, 1) := by decide +kernel
theorem dX7_token_50 : decode cX7_token 50 = .ok (.getfield 10, 3) := by decide +kernel
theorem dX7_token_53 : decode cX7_token 53 = .ok (.iload_n 1, 1) := by decide +kernel
theorem dX7_token_54 : decode cX7_token 54 = .ok (.iload_n 2, 1) := by decide +kernel
theorem dX7_token_55 : decode cX7_token 55 = .ok (.iload_n 3, 1) := by decide +kernel
theorem dX7_token_56 : decode cX7_token 56 = .ok (.invokevirtual 70, 3) := by decide +kernel
theorem dX7_token_59 : decode cX7_token 59 = .ok (.ireturn, 1) := by decide +kernel
theorem dX4_wipe_0 : decode cX4_wipe 0 = .ok (.aload_n 0, 1) := by decide +kernel
theorem dX4_wipe_1 : decode cX4_wipe 1 = .ok (.iload_n 1, 1) := by decide +kernel
theorem dX4_wipe_2 : decode cX4_wipe 2 = .ok (.invokevirtual 25, 3) := by decide +kernel
theorem dX4_wipe_5 : decode cX4_wipe 5 = .ok (.istore_n 2, 1) := by decide +kernel
theorem dX4_wipe_6 : decode cX4_wipe 6 = .ok (.aload_n 0, 1) := by decide +kernel
theorem dX4_wipe_7 : decode cX4_wipe 7 = .ok (.iload_n 1, 1) := by decide +kernel
theorem dX4_wipe_8 : decode cX4_wipe 8 = .ok (.invokevirtual 21, 3) := by decide +kernel
theorem dX4_wipe_11 : decode cX4_wipe 11 = .ok (.ifCond .eq 10, 3) := by decide +kernel
theorem dX4_wipe_14 : decode cX4_wipe 14 = .ok (.aload_n 0, 1) := by decide +kernel
theorem dX4_wipe_15 : decode cX4_wipe 15 = .ok (.getfield 18, 3) := by decide +kernel
theorem dX4_wipe_18 : decode cX4_wipe 18 = .ok (.iload_n 1, 1) := by decide +kernel
theorem dX4_wipe_19 : decode cX4_wipe 19 = .ok (.iconst 0, 1) := by decide +kernel
theorem dX4_wipe_20 : decode cX4_wipe 20 = .ok (.iastore, 1) := by decide +kernel
theorem dX4_wipe_21 : decode cX4_wipe 21 = .ok (.iload_n 2, 1) := by decide +kernel
theorem dX4_wipe_22 : decode cX4_wipe 22 = .ok (.ireturn, 1) := by decide +kernel
theorem dX7_clear_0 : decode cX7_clear 0 = .ok (.aload_n 0, 1) := by decide +kernel
theorem dX7_clear_1 : decode cX7_clear 1 = .ok (.getfield 10, 3) := by decide +kernel
theorem dX7_clear_4 : decode cX7_clear 4 = .ok (.iload_n 1, 1) := by decide +kernel
theorem dX7_clear_5 : decode cX7_clear 5 = .ok (.invokevirtual 58, 3) := by decide +kernel
theorem dX7_clear_8 : decode cX7_clear 8 = .ok (.ifCond .eq 14, 3) := by decide +kernel
theorem dX7_clear_11 : decode cX7_clear 11 = .ok (.aload_n 0, 1) := by decide +kernel
theorem dX7_clear_12 : decode cX7_clear 12 = .ok (.getfield 10, 3) := by decide +kernel
theorem dX7_clear_15 : decode cX7_clear 15 = .ok (.iload_n 1, 1) := by decide +kernel
theorem dX7_clear_16 : decode cX7_clear 16 = .ok (.invokevirtual 74, 3) := by decide +kernel
theorem dX7_clear_19 : decode cX7_clear 19 = .ok (.goto 4, 3) := by decide +kernel
theorem dX7_clear_22 : decode cX7_clear 22 = .ok (.iconst (-1), 1) := by decide +kernel
theorem dX7_clear_23 : decode cX7_clear 23 = .ok (.ireturn, 1) := by decide +kernel
theorem dX2_put_0 : decode cX2_put 0 = .ok (.aload_n 0, 1) := by decide +kernel
theorem dX2_put_1 : decode cX2_put 1 = .ok (.getfield 18, 3) := by decide +kernel
theorem dX2_put_4 : decode cX2_put 4 = .ok (.bipush 60, 2) := by decide +kernel
theorem dX2_put_6 : decode cX2_put 6 = .ok (.if_icmp .lt 5, 3) := by decide +kernel
theorem dX2_put_9 : decode cX2_put 9 = .ok (.iconst 0, 1) := by decide +kernel
theorem dX2_put_10 : decode cX2_put 10 = .ok (.ireturn, 1) := by decide +kernel
theorem dX2_put_11 : decode cX2_put 11 = .ok (.aload_n 0, 1) := by decide +kernel
theorem dX2_put_12 : decode cX2_put 12 = .ok (.getfield 9, 3) := by decide +kernel
theorem dX2_put_15 : decode cX2_put 15 = .ok (.aload_n 0, 1) := by decide +kernel
theorem dX2_put_16 : decode cX2_put 16 = .ok (.getfield 18, 3) := by decide +kernel
theorem dX2_put_19 : decode cX2_put 19 = .ok (.iload_n 1, 1) := by decide +kernel
theorem dX2_put_20 : decode cX2_put 20 = .ok (.iastore, 1) := by decide +kernel
theorem dX2_put_21 : decode cX2_put 21 = .ok (.aload_n 0, 1) := by decide +kernel
theorem dX2_put_22 : decode cX2_put 22 = .ok (.getfield 15, 3) := by decide +kernel
theorem dX2_put_25 : decode cX2_put 25 = .ok (.aload_n 0, 1) := by decide +kernel
theorem dX2_put_26 : decode cX2_put 26 = .ok (.getfield 18, 3) := by decide +kernel
theorem dX2_put_29 : decode cX2_put 29 = .ok (.iload_n 2, 1) := by decide +kernel
theorem dX2_put_30 : decode cX2_put 30 = .ok (.iastore, 1) := by decide +kernel
theorem dX2_put_31 : decode cX2_put 31 = .ok (.aload_n 0, 1) := by decide +kernel
theorem dX2_put_32 : decode cX2_put 32 = .ok (.dup, 1) := by decide +kernel
theorem dX2_put_33 : decode cX2_put 33 = .ok (.getfield 18, 3) := by decide +kernel
theorem dX2_put_36 : decode cX2_put 36 = .ok (.iconst 1, 1) := by decide +kernel
theorem dX2_put_37 : decode cX2_put 37 = .ok (.iadd, 1) := by decide +kernel
theorem dX2_put_38 : decode cX2_put 38 = .ok (.putfield 18, 3) := by decide +kernel
theorem dX2_put_41 : decode cX2_put 41 = .ok (.iconst 1, 1) := by decide +kernel
theorem dX2_put_42 : decode cX2_put 42 = .ok (.ireturn, 1) := by decide +kernel
theorem dX2_count_0 : decode cX2_count 0 = .ok (.aload_n 0, 1) := by decide +kernel
theorem dX2_count_1 : decode cX2_count 1 = .ok (.getfield 18, 3) := by decide +kernel
theorem dX2_count_4 : decode cX2_count 4 = .ok (.ireturn, 1) := by decide +kernel
theorem dX7_push_0 : decode cX7_push 0 = .ok (.iload_n 1, 1) := by decide +kernel
theorem dX7_push_1 : decode cX7_push 1 = .ok (.ifCond .lt 8, 3) := by decide +kernel
theorem dX7_push_4 : decode cX7_push 4 = .ok (.iload_n 1, 1) := by decide +kernel
theorem dX7_push_5 : decode cX7_push 5 = .ok (.iconst 4, 1) := by decide +kernel
theorem dX7_push_6 : decode cX7_push 6 = .ok (.if_icmp .le 5, 3) := by decide +kernel
theorem dX7_push_9 : decode cX7_push 9 = .ok (.iconst (-1), 1) := by decide +kernel
theorem dX7_push_10 : decode cX7_push 10 = .ok (.ireturn, 1) := by decide +kernel
theorem dX7_push_11 : decode cX7_push 11 = .ok (.iload_n 1, 1) := by decide +kernel
theorem dX7_push_12 : decode cX7_push 12 = .ok (.iload_n 2, 1) := by decide +kernel
theorem dX7_push_13 : decode cX7_push 13 = .ok (.invokestatic 62, 3) := by decide +kernel
theorem dX7_push_16 : decode cX7_push 16 = .ok (.ifCond .ne 6, 3) := by decide +kernel
theorem dX7_push_19 : decode cX7_push 19 = .ok (.bipush (-2), 2) := by decide +kernel
theorem dX7_push_21 : decode cX7_push 21 = .ok (.ireturn, 1) := by decide +kernel
theorem dX7_push_22 : decode cX7_push 22 = .ok (.aload_n 0, 1) := by decide +kernel
theorem dX7_push_23 : decode cX7_push 23 = .ok (.getfield 27, 3) := by decide +kernel
theorem dX7_push_26 : decode cX7_push 26 = .ok (.iload_n 1, 1) := by decide +kernel
theorem dX7_push_27 : decode cX7_push 27 = .ok (.iload_n 2, 1) := by decide +kernel
theorem dX7_push_28 : decode cX7_push 28 = .ok (.invokevirtual 77, 3) := by decide +kernel
theorem dX7_push_31 : decode cX7_push 31 = .ok (.ifCond .eq 13, 3) := by decide +kernel
theorem dX7_push_34 : decode cX7_push 34 = .ok (.aload_n 0, 1) := by decide +kernel
theorem dX7_push_35 : decode cX7_push 35 = .ok (.getfield 27, 3) := by decide +kernel
theorem dX7_push_38 : decode cX7_push 38 = .ok (.invokevirtual 82, 3) := by decide +kernel
theorem dX7_push_41 : decode cX7_push 41 = .ok (.goto 5, 3) := by decide +kernel
theorem dX7_push_44 : decode cX7_push 44 = .ok (.bipush (-4), 2) := by decide +kernel
theorem dX7_push_46 : decode cX7_push 46 = .ok (.ireturn, 1) := by decide +kernel
theorem dX2_takeOff_0 : decode cX2_takeOff 0 = .ok (.iload_n 1, 1) := by decide +kernel
theorem dX2_takeOff_1 : decode cX2_takeOff 1 = .ok (.ifCond .lt 21, 3) := by decide +kernel
theorem dX2_takeOff_4 : decode cX2_takeOff 4 = .ok (.iload_n 1, 1) := by decide +kernel
theorem dX2_takeOff_5 : decode cX2_takeOff 5 = .ok (.aload_n 0, 1) := by decide +kernel
theorem dX2_takeOff_6 : decode cX2_takeOff 6 = .ok (.getfield 18, 3) := by decide +kernel
theorem dX2_takeOff_9 : decode cX2_takeOff 9 = .ok (.if_icmp .gt 13, 3) := by decide +kernel
theorem dX2_takeOff_12 : decode cX2_takeOff 12 = .ok (.aload_n 0, 1) := by decide +kernel
theorem dX2_takeOff_13 : decode cX2_takeOff 13 = .ok (.dup, 1) := by decide +kernel
theorem dX2_takeOff_14 : decode cX2_takeOff 14 = .ok (.getfield 18, 3) := by decide +kernel
theorem dX2_takeOff_17 : decode cX2_takeOff 17 = .ok (.iload_n 1, 1) := by decide +kernel
theorem dX2_takeOff_18 : decode cX2_takeOff 18 = .ok (.isub, 1) := by decide +kernel
theorem dX2_takeOff_19 : decode cX2_takeOff 19 = .ok (.putfield 18, 3) := by decide +kernel
theorem dX2_takeOff_22 : decode cX2_takeOff 22 = .ok (.return_, 1) := by decide +kernel
theorem dX7_drop_0 : decode cX7_drop 0 = .ok (.aload_n 0, 1) := by decide +kernel
theorem dX7_drop_1 : decode cX7_drop 1 = .ok (.getfield 27, 3) := by decide +kernel
theorem dX7_drop_4 : decode cX7_drop 4 = .ok (.invokevirtual 82, 3) := by decide +kernel
theorem dX7_drop_7 : decode cX7_drop 7 = .ok (.istore_n 1, 1) := by decide +kernel
theorem dX7_drop_8 : decode cX7_drop 8 = .ok (.aload_n 0, 1) := by decide +kernel
theorem dX7_drop_9 : decode cX7_drop 9 = .ok (.getfield 27, 3) := by decide +kernel
theorem dX7_drop_12 : decode cX7_drop 12 = .ok (.iload_n 1, 1) := by decide +kernel
theorem dX7_drop_13 : decode cX7_drop 13 = .ok (.invokevirtual 86, 3) := by decide +kernel
theorem dX7_drop_16 : decode cX7_drop 16 = .ok (.iload_n 1, 1) := by decide +kernel
theorem dX7_drop_17 : decode cX7_drop 17 = .ok (.ireturn, 1) := by decide +kernel
theorem dX0_add_0 : decode cX0_add 0 = .ok (.aload_n 0, 1) := by decide +kernel
theorem dX0_add_1 : decode cX0_add 1 = .ok (.getfield 31, 3) := by decide +kernel
theorem dX0_add_4 : decode cX0_add 4 = .ok (.bipush 30, 2) := by decide +kernel
theorem dX0_add_6 : decode cX0_add 6 = .ok (.if_icmp .lt 4, 3) := by decide +kernel
theorem dX0_add_9 : decode cX0_add 9 = .ok (.return_, 1) := by decide +kernel
theorem dX0_add_10 : decode cX0_add 10 = .ok (.aload_n 0, 1) := by decide +kernel
theorem dX0_add_11 : decode cX0_add 11 = .ok (.getfield 9, 3) := by decide +kernel
theorem dX0_add_14 : decode cX0_add 14 = .ok (.aload_n 0, 1) := by decide +kernel
theorem dX0_add_15 : decode cX0_add 15 = .ok (.getfield 31, 3) := by decide +kernel
theorem dX0_add_18 : decode cX0_add 18 = .ok (.iload_n 1, 1) := by decide +kernel
theorem dX0_add_19 : decode cX0_add 19 = .ok (.iastore, 1) := by decide +kernel
theorem dX0_add_20 : decode cX0_add 20 = .ok (.aload_n 0, 1) := by decide +kernel
theorem dX0_add_21 : decode cX0_add 21 = .ok (.getfield 15, 3) := by decide +kernel
theorem dX0_add_24 : decode cX0_add 24 = .ok (.aload_n 0, 1) := by decide +kernel
theorem dX0_add_25 : decode cX0_add 25 = .ok (.getfield 31, 3) := by decide +kernel
theorem dX0_add_28 : decode cX0_add 28 = .ok (.iload_n 2, 1) := by decide +kernel
theorem dX0_add_29 : decode cX0_add 29 = .ok (.iastore, 1) := by decide +kernel
theorem dX0_add_30 : decode cX0_add 30 = .ok (.aload_n 0, 1) := by decide +kernel
theorem dX0_add_31 : decode cX0_add 31 = .ok (.getfield 18, 3) := by decide +kernel
theorem dX0_add_34 : decode cX0_add 34 = .ok (.aload_n 0, 1) := by decide +kernel
theorem dX0_add_35 : decode cX0_add 35 = .ok (.getfield 31, 3) := by decide +kernel
theorem dX0_add_38 : decode cX0_add 38 = .ok (.iconst 0, 1) := by decide +kernel
theorem dX0_add_39 : decode cX0_add 39 = .ok (.iastore, 1) := by decide +kernel
theorem dX0_add_40 : decode cX0_add 40 = .ok (.aload_n 0, 1) := by decide +kernel
theorem dX0_add_41 : decode cX0_add 41 = .ok (.dup, 1) := by decide +kernel
theorem dX0_add_42 : decode cX0_add 42 = .ok (.getfield 31, 3) := by decide +kernel
theorem dX0_add_45 : decode cX0_add 45 = .ok (.iconst 1, 1) := by decide +kernel
theorem dX0_add_46 : decode cX0_add 46 = .ok (.iadd, 1) := by decide +kernel
theorem dX0_add_47 : decode cX0_add 47 = .ok (.putfield 31, 3) := by decide +kernel
theorem dX0_add_50 : decode cX0_add 50 = .ok (.aload_n 0, 1) := by decide +kernel
theorem dX0_add_51 : decode cX0_add 51 = .ok (.getfield 31, 3) := by decide +kernel
theorem dX0_add_54 : decode cX0_add 54 = .ok (.aload_n 0, 1) := by decide +kernel
theorem dX0_add_55 : decode cX0_add 55 = .ok (.getfield 35, 3) := by decide +kernel
theorem dX0_add_58 : decode cX0_add 58 = .ok (.if_icmp .le 11, 3) := by decide +kernel
theorem dX0_add_61 : decode cX0_add 61 = .ok (.aload_n 0, 1) := by decide +kernel
theorem dX0_add_62 : decode cX0_add 62 = .ok (.aload_n 0, 1) := by decide +kernel
theorem dX0_add_63 : decode cX0_add 63 = .ok (.getfield 31, 3) := by decide +kernel
theorem dX0_add_66 : decode cX0_add 66 = .ok (.putfield 35, 3) := by decide +kernel
theorem dX0_add_69 : decode cX0_add 69 = .ok (.return_, 1) := by decide +kernel
theorem dX0_startWith_0 : decode cX0_startWith 0 = .ok (.aload_n 0, 1) := by decide +kernel
theorem dX0_startWith_1 : decode cX0_startWith 1 = .ok (.iconst 0, 1) := by decide +kernel
theorem dX0_startWith_2 : decode cX0_startWith 2 = .ok (.putfield 31, 3) := by decide +kernel
theorem dX0_startWith_5 : decode cX0_startWith 5 = .ok (.aload_n 0, 1) := by decide +kernel
theorem dX0_startWith_6 : decode cX0_startWith 6 = .ok (.iconst 0, 1) := by decide +kernel
theorem dX0_startWith_7 : decode cX0_startWith 7 = .ok (.putfield 35, 3) := by decide +kernel
theorem dX0_startWith_10 : decode cX0_startWith 10 = .ok (.aload_n 0, 1) := by decide +kernel
theorem dX0_startWith_11 : decode cX0_startWith 11 = .ok (.iconst 0, 1) := by decide +kernel
theorem dX0_startWith_12 : decode cX0_startWith 12 = .ok (.iload_n 1, 1) := by decide +kernel
theorem dX0_startWith_13 : decode cX0_startWith 13 = .ok (.invokevirtual 38, 3) := by decide +kernel
theorem dX0_startWith_16 : decode cX0_startWith 16 = .ok (.return_, 1) := by decide +kernel
theorem dX0_count_0 : decode cX0_count 0 = .ok (.aload_n 0, 1) := by decide +kernel
theorem dX0_count_1 : decode cX0_count 1 = .ok (.getfield 31, 3) := by decide +kernel
theorem dX0_count_4 : decode cX0_count 4 = .ok (.ireturn, 1) := by decide +kernel
theorem dX0_topSort_0 : decode cX0_topSort 0 = .ok (.aload_n 0, 1) := by decide +kernel
theorem dX0_topSort_1 : decode cX0_topSort 1 = .ok (.getfield 31, 3) := by decide +kernel
theorem dX0_topSort_4 : decode cX0_topSort 4 = .ok (.ifCond .le 17, 3) := by decide +kernel
theorem dX0_topSort_7 : decode cX0_topSort 7 = .ok (.aload_n 0, 1) := by decide +kernel
theorem dX0_topSort_8 : decode cX0_topSort 8 = .ok (.getfield 9, 3) := by decide +kernel
theorem dX0_topSort_11 : decode cX0_topSort 11 = .ok (.aload_n 0, 1) := by decide +kernel
theorem dX0_topSort_12 : decode cX0_topSort 12 = .ok (.getfield 31, 3) := by decide +kernel
theorem dX0_topSort_15 : decode cX0_topSort 15 = .ok (.iconst 1, 1) := by decide +kernel
theorem dX0_topSort_16 : decode cX0_topSort 16 = .ok (.isub, 1) := by decide +kernel
theorem dX0_topSort_17 : decode cX0_topSort 17 = .ok (.iaload, 1) := by decide +kernel
theorem dX0_topSort_18 : decode cX0_topSort 18 = .ok (.goto 4, 3) := by decide +kernel
theorem dX0_topSort_21 : decode cX0_topSort 21 = .ok (.iconst (-1), 1) := by decide +kernel
theorem dX0_topSort_22 : decode cX0_topSort 22 = .ok (.ireturn, 1) := by decide +kernel
theorem dX0_takeTop_0 : decode cX0_takeTop 0 = .ok (.aload_n 0, 1) := by decide +kernel
theorem dX0_takeTop_1 : decode cX0_takeTop 1 = .ok (.getfield 31, 3) := by decide +kernel
theorem dX0_takeTop_4 : decode cX0_takeTop 4 = .ok (.ifCond .le 13, 3) := by decide +kernel
theorem dX0_takeTop_7 : decode cX0_takeTop 7 = .ok (.aload_n 0, 1) := by decide +kernel
theorem dX0_takeTop_8 : decode cX0_takeTop 8 = .ok (.dup, 1) := by decide +kernel
theorem dX0_takeTop_9 : decode cX0_takeTop 9 = .ok (.getfield 31, 3) := by decide +kernel
theorem dX0_takeTop_12 : decode cX0_takeTop 12 = .ok (.iconst 1, 1) := by decide +kernel
theorem dX0_takeTop_13 : decode cX0_takeTop 13 = .ok (.isub, 1) := by decide +kernel
theorem dX0_takeTop_14 : decode cX0_takeTop 14 = .ok (.putfield 31, 3) := by decide +kernel
theorem dX0_takeTop_17 : decode cX0_takeTop 17 = .ok (.return_, 1) := by decide +kernel
def fX4_has_1_14 (S : St) : Option (Int32 × St) :=
    some ((0 : Int32), S)
def fX4_has_1 (p1 : Int32) (S : St) : Option (Int32 × St) :=
  if p1 < 0 then
    fX4_has_1_14 S
  else
    if (20 : Int32) ≤ p1 then
      fX4_has_1_14 S
    else
      some ((1 : Int32), S)
def fX7_isOfKind_51 (S : St) : Option (Int32 × St) :=
    some ((1 : Int32), S)
def fX7_isOfKind_71 (S : St) : Option (Int32 × St) :=
    some ((0 : Int32), S)
def fX7_isOfKind_97 (S : St) : Option (Int32 × St) :=
    some ((0 : Int32), S)
def fX7_isOfKind_113 (S : St) : Option (Int32 × St) :=
    some ((0 : Int32), S)
def fX7_isOfKind (p1 : Int32) (p2 : Int32) (S : St) : Option (Int32 × St) :=
  if p1 = 0 then
    some ((1 : Int32), S)
  else
    if p1 = 1 then
      if p2 = 0 then
        fX7_isOfKind_51 S
      else
        if p2 = (1 : Int32) then
          fX7_isOfKind_51 S
        else
          some ((0 : Int32), S)
    else
      if p1 = 2 then
        if p2 < 0 then
          fX7_isOfKind_71 S
        else
          if (40 : Int32) ≤ p2 then
            fX7_isOfKind_71 S
          else
            some ((1 : Int32), S)
      else
        if p1 = 3 then
          if p2 = 0 then
            some ((1 : Int32), S)
          else
            some ((0 : Int32), S)
        else
          if p1 = 4 then
            if p2 < 0 then
              fX7_isOfKind_97 S
            else
              if (20 : Int32) ≤ p2 then
                fX7_isOfKind_97 S
              else
                some ((1 : Int32), S)
          else
            if p1 = 5 then
              if p2 < 0 then
                fX7_isOfKind_113 S
              else
                if (28 : Int32) ≤ p2 then
                  fX7_isOfKind_113 S
                else
                  some ((1 : Int32), S)
            else
              some ((0 : Int32), S)
def fX4_length_1_19 (S : St) : Option (Int32 × St) :=
    some ((0 : Int32), S)
def fX4_length_1 (p1 : Int32) (S : St) : Option (Int32 × St) :=
  if p1 < 0 then
    fX4_length_1_19 S
  else
    if (20 : Int32) ≤ p1 then
      fX4_length_1_19 S
    else
      if vq p1 20 then
      some (S.1 4 p1.toNatClampNeg, S)
      else none
def fX4_append_1_19 (S : St) : Option (Int32 × St) :=
    some ((-1 : Int32), S)
def fX4_append_1 (p1 : Int32) (p2 : Int32) (p3 : Int32) (S : St) : Option (Int32 × St) :=
  bnd (fX4_has_1 p1 S) fun r1 S1 =>
  if r1 = 0 then
    fX4_append_1_19 S1
  else
    if vq p1 20 then
    if (S1.1 4 p1.toNatClampNeg) < (24 : Int32) then
      if vq p1 20 then
      stv ((p1 * (24 : Int32)) + (S1.1 4 p1.toNatClampNeg)) fun y6 =>
      if vq y6 480 then
      stp (si S1 2 y6.toNatClampNeg p2) fun S7 =>
      if vq y6 480 then
      stp (si S7 3 y6.toNatClampNeg p3) fun S8 =>
      if vq p1 20 then
      if vq p1 20 then
      stp (si S8 4 p1.toNatClampNeg ((S8.1 4 p1.toNatClampNeg) + (1 : Int32))) fun S10 =>
      if vq p1 20 then
      some (S10.1 4 p1.toNatClampNeg, S10)
      else none
      else none
      else none
      else none
      else none
      else none
    else
      fX4_append_1_19 S1
    else none
def fX7_token_0_20 (S : St) : Option (Int32 × St) :=
    some ((-1 : Int32), S)
def fX7_token_0 (p1 : Int32) (p2 : Int32) (p3 : Int32) (S : St) : Option (Int32 × St) :=
  bnd (fX4_has_1 p1 S) fun r1 S1 =>
  if r1 = 0 then
    fX7_token_0_20 S1
  else
    if p2 < 0 then
      fX7_token_0_20 S1
    else
      if p2 ≤ (5 : Int32) then
        bnd (fX7_isOfKind p2 p3 S1) fun r5 S5 =>
        if r5 = 0 then
          some ((-2 : Int32), S5)
        else
          bnd (fX4_length_1 p1 S5) fun r7 S7 =>
          if r7 < (24 : Int32) then
            bnd (fX4_append_1 p1 p2 p3 S7) fun r9 S9 =>
            some (r9, S9)
          else
            some ((-4 : Int32), S7)
      else
        fX7_token_0_20 S1
def fX4_wipe_1_21 (q2 : Int32) (S : St) : Option (Int32 × St) :=
    some (q2, S)
def fX4_wipe_1 (p1 : Int32) (S : St) : Option (Int32 × St) :=
  bnd (fX4_length_1 p1 S) fun r1 S1 =>
  bnd (fX4_has_1 p1 S1) fun r2 S2 =>
  if r2 = 0 then
    fX4_wipe_1_21 r1 S2
  else
    if vq p1 20 then
    stp (si S2 4 p1.toNatClampNeg (0 : Int32)) fun S4 =>
    fX4_wipe_1_21 r1 S4
    else none
def fX7_clear_0 (p1 : Int32) (S : St) : Option (Int32 × St) :=
  bnd (fX4_has_1 p1 S) fun r1 S1 =>
  if r1 = 0 then
    some ((-1 : Int32), S1)
  else
    bnd (fX4_wipe_1 p1 S1) fun r3 S3 =>
    some (r3, S3)
def fX2_put_5 (p1 : Int32) (p2 : Int32) (S : St) : Option (Int32 × St) :=
  if (S.1 5 2) < (60 : Int32) then
    if vq (S.1 5 2) 60 then
    stp (si S 6 (S.1 5 2).toNatClampNeg p1) fun S2 =>
    if vq (S2.1 5 2) 60 then
    stp (si S2 7 (S2.1 5 2).toNatClampNeg p2) fun S3 =>
    stp (si S3 5 2 ((S3.1 5 2) + (1 : Int32))) fun S4 =>
    some ((1 : Int32), S4)
    else none
    else none
  else
    some ((0 : Int32), S)
def fX2_count_5 (S : St) : Option (Int32 × St) :=
  some (S.1 5 2, S)
def fX7_push_0_9 (S : St) : Option (Int32 × St) :=
    some ((-1 : Int32), S)
def fX7_push_0 (p1 : Int32) (p2 : Int32) (S : St) : Option (Int32 × St) :=
  if p1 < 0 then
    fX7_push_0_9 S
  else
    if p1 ≤ (4 : Int32) then
      bnd (fX7_isOfKind p1 p2 S) fun r3 S3 =>
      if r3 = 0 then
        some ((-2 : Int32), S3)
      else
        bnd (fX2_put_5 p1 p2 S3) fun r5 S5 =>
        if r5 = 0 then
          some ((-4 : Int32), S5)
        else
          bnd (fX2_count_5 S5) fun r7 S7 =>
          some (r7, S7)
    else
      fX7_push_0_9 S
def fX2_takeOff_5 (p1 : Int32) (S : St) : Option (Int32 × St) :=
  if p1 < 0 then
    some (0, S)
  else
    if (S.1 5 2) < p1 then
      some (0, S)
    else
      stp (si S 5 2 ((S.1 5 2) - p1)) fun S3 =>
      some (0, S3)
def fX7_drop_0 (S : St) : Option (Int32 × St) :=
  bnd (fX2_count_5 S) fun r1 S1 =>
  bnd (fX2_takeOff_5 r1 S1) fun _ S2 =>
  some (r1, S2)
def fX0_add_13 (p1 : Int32) (p2 : Int32) (S : St) : Option (Int32 × St) :=
  if (S.1 13 6) < (30 : Int32) then
    if vq (S.1 13 6) 30 then
    stp (si S 14 (S.1 13 6).toNatClampNeg p1) fun S2 =>
    if vq (S2.1 13 6) 30 then
    stp (si S2 15 (S2.1 13 6).toNatClampNeg p2) fun S3 =>
    if vq (S3.1 13 6) 30 then
    stp (si S3 16 (S3.1 13 6).toNatClampNeg (0 : Int32)) fun S4 =>
    stp (si S4 13 6 ((S4.1 13 6) + (1 : Int32))) fun S5 =>
    if (S5.1 13 6) ≤ (S5.1 13 7) then
      some (0, S5)
    else
      stp (si S5 13 7 (S5.1 13 6)) fun S7 =>
      some (0, S7)
    else none
    else none
    else none
  else
    some (0, S)
def fX0_startWith_13 (p1 : Int32) (S : St) : Option (Int32 × St) :=
  stp (si S 13 6 (0 : Int32)) fun S1 =>
  stp (si S1 13 7 (0 : Int32)) fun S2 =>
  bnd (fX0_add_13 (0 : Int32) p1 S2) fun _ S3 =>
  some (0, S3)
def fX0_count_13 (S : St) : Option (Int32 × St) :=
  some (S.1 13 6, S)
def fX0_topSort_13 (S : St) : Option (Int32 × St) :=
  if (S.1 13 6) ≤ 0 then
    some ((-1 : Int32), S)
  else
    if vq ((S.1 13 6) - (1 : Int32)) 30 then
    some (S.1 14 ((S.1 13 6) - (1 : Int32)).toNatClampNeg, S)
    else none
def fX0_takeTop_13 (S : St) : Option (Int32 × St) :=
  if (S.1 13 6) ≤ 0 then
    some (0, S)
  else
    stp (si S 13 6 ((S.1 13 6) - (1 : Int32))) fun S2 =>
    some (0, S2)
set_option maxRecDepth 100000 in
set_option maxHeartbeats 4000000 in
theorem rX4_has_1_14 {p : Program} {l : Launch} {e : Env} {s : State} {m : MethodId} {args : Array Value} {below : List Frame} {meth : Method} {c : Code} {D : va_G} {a : Nat → Nat} {cI cJ : ClassId} {tk : Nat} {tf : Nat → Int32} (C : Cx p s m args meth c RX4 cX4_has 2 D cI cJ tk tf (AR a 25 s.heap.size)) (hr : meth.sig.returnType = (some .boolean)) : ∀ (S : St) (x : Int32 × St) (H : Heap) (locs : List Loc) (ls : Array Slot), fX4_has_1_14 S = some x → Wd D (wE a cI cJ) (AR a 25 s.heap.size) s S H locs → lv_has ls 2 [] → W p l e { frames := 0, cells := 0, slots := 0, locals := 0 } s m args below meth c H locs 0 0 (MQ below (Qi D (wE a cI cJ) (AR a 25 s.heap.size) x) args s 0 0 (AR a 25 s.heap.size)) (F0 m 14 ls []) := by
  intro S x H locs ls hf G hl
  unfold fX4_has_1_14 at hf
  refine lv_iconst (v := 0) C.1 C.2.1 dX4_has_14 (by decide) ?_
  exact r_zret C hr (Or.inl rfl) G hf dX4_has_15
set_option maxRecDepth 100000 in
set_option maxHeartbeats 4000000 in
theorem mX4_has_1 (l : Launch) (D : va_G) (a : Nat → Nat) (cI cJ : ClassId) (tk : Nat) (tf : Nat → Int32) (p1 : Int32) (S : St) (x : Int32 × St) (hf : fX4_has_1 p1 S = some x) : Mi l D (wE a cI cJ) a 25 cI cJ tk tf yX4_has cX4_has 2 (some .boolean) { frames := 0, cells := 0, slots := 0, locals := 0 } [.ref (a 1), .int p1] S x := by
  refine opn_i (by decide +kernel) (Nat.le_of_ble_eq_true rfl) (fun p e s m below meth c C hr G ls hl => ?_)
  replace hl : lv_has ls 2 [(0, .ref (a 1)), (1, .int p1)] := hl
  unfold fX4_has_1 at hf
  refine lv_iload_n C.1 C.2.1 dX4_has_0 rfl (lv_at hl 1 rfl) ?_
  refine lv_if_lt (tgt := 14) C.1 C.2.1 dX4_has_1 (by decide) (fun c1 => ?_) (fun c1 => ?_)
  · replace hf := ifp c1 hf
    exact rX4_has_1_14 C hr S _ _ _ _ hf G (lv_sub hl [] rfl)
  · replace hf := ifq c1 hf
    refine lv_iload_n C.1 C.2.1 dX4_has_4 rfl (lv_at hl 1 rfl) ?_
    refine lv_bipush (v := 20) C.1 C.2.1 dX4_has_5 (by decide) ?_
    refine lv_icmp_ge (tgt := 14) C.1 C.2.1 dX4_has_7 (by decide) (fun c2 => ?_) (fun c2 => ?_)
    · replace hf := ifp c2 hf
      exact rX4_has_1_14 C hr S _ _ _ _ hf G (lv_sub hl [] rfl)
    · replace hf := ifq c2 hf
      refine lv_iconst (v := 1) C.1 C.2.1 dX4_has_10 (by decide) ?_
      refine lv_goto (tgt := 15) C.1 C.2.1 dX4_has_11 (by decide) ?_
      exact r_zret C hr (Or.inr rfl) G hf dX4_has_15
set_option maxRecDepth 100000 in
set_option maxHeartbeats 4000000 in
theorem rX7_isOfKind_51 {p : Program} {l : Launch} {e : Env} {s : State} {m : MethodId} {args : Array Value} {below : List Frame} {meth : Method} {c : Code} {D : va_G} {a : Nat → Nat} {cI cJ : ClassId} {tk : Nat} {tf : Nat → Int32} (C : Cx p s m args meth c RX7 cX7_isOfKind 2 D cI cJ tk tf (AR a 25 s.heap.size)) (hr : meth.sig.returnType = (some .boolean)) : ∀ (S : St) (x : Int32 × St) (H : Heap) (locs : List Loc) (ls : Array Slot), fX7_isOfKind_51 S = some x → Wd D (wE a cI cJ) (AR a 25 s.heap.size) s S H locs → lv_has ls 2 [] → W p l e { frames := 0, cells := 0, slots := 0, locals := 0 } s m args below meth c H locs 0 0 (MQ below (Qi D (wE a cI cJ) (AR a 25 s.heap.size) x) args s 0 0 (AR a 25 s.heap.size)) (F0 m 51 ls []) := by
  intro S x H locs ls hf G hl
  unfold fX7_isOfKind_51 at hf
  refine lv_iconst (v := 1) C.1 C.2.1 dX7_isOfKind_51 (by decide) ?_
  refine lv_goto (tgt := 56) C.1 C.2.1 dX7_isOfKind_52 (by decide) ?_
  exact r_zret C hr (Or.inr rfl) G hf dX7_isOfKind_56
set_option maxRecDepth 100000 in
set_option maxHeartbeats 4000000 in
theorem rX7_isOfKind_71 {p : Program} {l : Launch} {e : Env} {s : State} {m : MethodId} {args : Array Value} {below : List Frame} {meth : Method} {c : Code} {D : va_G} {a : Nat → Nat} {cI cJ : ClassId} {tk : Nat} {tf : Nat → Int32} (C : Cx p s m args meth c RX7 cX7_isOfKind 2 D cI cJ tk tf (AR a 25 s.heap.size)) (hr : meth.sig.returnType = (some .boolean)) : ∀ (S : St) (x : Int32 × St) (H : Heap) (locs : List Loc) (ls : Array Slot), fX7_isOfKind_71 S = some x → Wd D (wE a cI cJ) (AR a 25 s.heap.size) s S H locs → lv_has ls 2 [] → W p l e { frames := 0, cells := 0, slots := 0, locals := 0 } s m args below meth c H locs 0 0 (MQ below (Qi D (wE a cI cJ) (AR a 25 s.heap.size) x) args s 0 0 (AR a 25 s.heap.size)) (F0 m 71 ls []) := by
  intro S x H locs ls hf G hl
  unfold fX7_isOfKind_71 at hf
  refine lv_iconst (v := 0) C.1 C.2.1 dX7_isOfKind_71 (by decide) ?_
  exact r_zret C hr (Or.inl rfl) G hf dX7_isOfKind_72
set_option maxRecDepth 100000 in
set_option maxHeartbeats 4000000 in
theorem rX7_isOfKind_97 {p : Program} {l : Launch} {e : Env} {s : State} {m : MethodId} {args : Array Value} {below : List Frame} {meth : Method} {c : Code} {D : va_G} {a : Nat → Nat} {cI cJ : ClassId} {tk : Nat} {tf : Nat → Int32} (C : Cx p s m args meth c RX7 cX7_isOfKind 2 D cI cJ tk tf (AR a 25 s.heap.size)) (hr : meth.sig.returnType = (some .boolean)) : ∀ (S : St) (x : Int32 × St) (H : Heap) (locs : List Loc) (ls : Array Slot), fX7_isOfKind_97 S = some x → Wd D (wE a cI cJ) (AR a 25 s.heap.size) s S H locs → lv_has ls 2 [] → W p l e { frames := 0, cells := 0, slots := 0, locals := 0 } s m args below meth c H locs 0 0 (MQ below (Qi D (wE a cI cJ) (AR a 25 s.heap.size) x) args s 0 0 (AR a 25 s.heap.size)) (F0 m 97 ls []) := by
  intro S x H locs ls hf G hl
  unfold fX7_isOfKind_97 at hf
  refine lv_iconst (v := 0) C.1 C.2.1 dX7_isOfKind_97 (by decide) ?_
  exact r_zret C hr (Or.inl rfl) G hf dX7_isOfKind_98
set_option maxRecDepth 100000 in
set_option maxHeartbeats 4000000 in
theorem rX7_isOfKind_113 {p : Program} {l : Launch} {e : Env} {s : State} {m : MethodId} {args : Array Value} {below : List Frame} {meth : Method} {c : Code} {D : va_G} {a : Nat → Nat} {cI cJ : ClassId} {tk : Nat} {tf : Nat → Int32} (C : Cx p s m args meth c RX7 cX7_isOfKind 2 D cI cJ tk tf (AR a 25 s.heap.size)) (hr : meth.sig.returnType = (some .boolean)) : ∀ (S : St) (x : Int32 × St) (H : Heap) (locs : List Loc) (ls : Array Slot), fX7_isOfKind_113 S = some x → Wd D (wE a cI cJ) (AR a 25 s.heap.size) s S H locs → lv_has ls 2 [] → W p l e { frames := 0, cells := 0, slots := 0, locals := 0 } s m args below meth c H locs 0 0 (MQ below (Qi D (wE a cI cJ) (AR a 25 s.heap.size) x) args s 0 0 (AR a 25 s.heap.size)) (F0 m 113 ls []) := by
  intro S x H locs ls hf G hl
  unfold fX7_isOfKind_113 at hf
  refine lv_iconst (v := 0) C.1 C.2.1 dX7_isOfKind_113 (by decide) ?_
  exact r_zret C hr (Or.inl rfl) G hf dX7_isOfKind_114
set_option maxRecDepth 100000 in
set_option maxHeartbeats 4000000 in
theorem mX7_isOfKind (l : Launch) (D : va_G) (a : Nat → Nat) (cI cJ : ClassId) (tk : Nat) (tf : Nat → Int32) (p1 : Int32) (p2 : Int32) (S : St) (x : Int32 × St) (hf : fX7_isOfKind p1 p2 S = some x) : Mi l D (wE a cI cJ) a 25 cI cJ tk tf yX7_isOfKind cX7_isOfKind 2 (some .boolean) { frames := 0, cells := 0, slots := 0, locals := 0 } [.int p1, .int p2] S x := by
  refine opn_i (by decide +kernel) (Nat.le_of_ble_eq_true rfl) (fun p e s m below meth c C hr G ls hl => ?_)
  replace hl : lv_has ls 2 [(0, .int p1), (1, .int p2)] := hl
  unfold fX7_isOfKind at hf
  refine lv_iload_n C.1 C.2.1 dX7_isOfKind_0 rfl (lv_at hl 0 rfl) ?_
  by_cases c1 : p1 = (0 : Int32)
  · replace hf := ifp c1 hf
    refine lv_tableIn (tgt := 40) C.1 C.2.1 dX7_isOfKind_1 (by rw [c1]; decide) (by rw [c1]; decide) (by rw [c1]; rfl) (by decide) ?_
    refine lv_iconst (v := 1) C.1 C.2.1 dX7_isOfKind_40 (by decide) ?_
    exact r_zret C hr (Or.inr rfl) G hf dX7_isOfKind_41
  · replace hf := ifq c1 hf
    by_cases c2 : p1 = (1 : Int32)
    · replace hf := ifp c2 hf
      refine lv_tableIn (tgt := 42) C.1 C.2.1 dX7_isOfKind_1 (by rw [c2]; decide) (by rw [c2]; decide) (by rw [c2]; rfl) (by decide) ?_
      refine lv_iload_n C.1 C.2.1 dX7_isOfKind_42 rfl (lv_at hl 1 rfl) ?_
      refine lv_if_eq (tgt := 51) C.1 C.2.1 dX7_isOfKind_43 (by decide) (fun c3 => ?_) (fun c3 => ?_)
      · replace hf := ifp c3 hf
        exact rX7_isOfKind_51 C hr S _ _ _ _ hf G (lv_sub hl [] rfl)
      · replace hf := ifq c3 hf
        refine lv_iload_n C.1 C.2.1 dX7_isOfKind_46 rfl (lv_at hl 1 rfl) ?_
        refine lv_iconst (v := 1) C.1 C.2.1 dX7_isOfKind_47 (by decide) ?_
        refine lv_icmp_ne (tgt := 55) C.1 C.2.1 dX7_isOfKind_48 (by decide) (fun c4 => ?_) (fun c4 => ?_)
        · replace hf := ifq c4 hf
          refine lv_iconst (v := 0) C.1 C.2.1 dX7_isOfKind_55 (by decide) ?_
          exact r_zret C hr (Or.inl rfl) G hf dX7_isOfKind_56
        · replace hf := ifp c4 hf
          exact rX7_isOfKind_51 C hr S _ _ _ _ hf G (lv_sub hl [] rfl)
    · replace hf := ifq c2 hf
      by_cases c5 : p1 = (2 : Int32)
      · replace hf := ifp c5 hf
        refine lv_tableIn (tgt := 57) C.1 C.2.1 dX7_isOfKind_1 (by rw [c5]; decide) (by rw [c5]; decide) (by rw [c5]; rfl) (by decide) ?_
        refine lv_iload_n C.1 C.2.1 dX7_isOfKind_57 rfl (lv_at hl 1 rfl) ?_
        refine lv_if_lt (tgt := 71) C.1 C.2.1 dX7_isOfKind_58 (by decide) (fun c6 => ?_) (fun c6 => ?_)
        · replace hf := ifp c6 hf
          exact rX7_isOfKind_71 C hr S _ _ _ _ hf G (lv_sub hl [] rfl)
        · replace hf := ifq c6 hf
          refine lv_iload_n C.1 C.2.1 dX7_isOfKind_61 rfl (lv_at hl 1 rfl) ?_
          refine lv_bipush (v := 40) C.1 C.2.1 dX7_isOfKind_62 (by decide) ?_
          refine lv_icmp_ge (tgt := 71) C.1 C.2.1 dX7_isOfKind_64 (by decide) (fun c7 => ?_) (fun c7 => ?_)
          · replace hf := ifp c7 hf
            exact rX7_isOfKind_71 C hr S _ _ _ _ hf G (lv_sub hl [] rfl)
          · replace hf := ifq c7 hf
            refine lv_iconst (v := 1) C.1 C.2.1 dX7_isOfKind_67 (by decide) ?_
            refine lv_goto (tgt := 72) C.1 C.2.1 dX7_isOfKind_68 (by decide) ?_
            exact r_zret C hr (Or.inr rfl) G hf dX7_isOfKind_72
      · replace hf := ifq c5 hf
        by_cases c8 : p1 = (3 : Int32)
        · replace hf := ifp c8 hf
          refine lv_tableIn (tgt := 73) C.1 C.2.1 dX7_isOfKind_1 (by rw [c8]; decide) (by rw [c8]; decide) (by rw [c8]; rfl) (by decide) ?_
          refine lv_iload_n C.1 C.2.1 dX7_isOfKind_73 rfl (lv_at hl 1 rfl) ?_
          refine lv_if_ne (tgt := 81) C.1 C.2.1 dX7_isOfKind_74 (by decide) (fun c9 => ?_) (fun c9 => ?_)
          · replace hf := ifq c9 hf
            refine lv_iconst (v := 0) C.1 C.2.1 dX7_isOfKind_81 (by decide) ?_
            exact r_zret C hr (Or.inl rfl) G hf dX7_isOfKind_82
          · replace hf := ifp c9 hf
            refine lv_iconst (v := 1) C.1 C.2.1 dX7_isOfKind_77 (by decide) ?_
            refine lv_goto (tgt := 82) C.1 C.2.1 dX7_isOfKind_78 (by decide) ?_
            exact r_zret C hr (Or.inr rfl) G hf dX7_isOfKind_82
        · replace hf := ifq c8 hf
          by_cases c10 : p1 = (4 : Int32)
          · replace hf := ifp c10 hf
            refine lv_tableIn (tgt := 83) C.1 C.2.1 dX7_isOfKind_1 (by rw [c10]; decide) (by rw [c10]; decide) (by rw [c10]; rfl) (by decide) ?_
            refine lv_iload_n C.1 C.2.1 dX7_isOfKind_83 rfl (lv_at hl 1 rfl) ?_
            refine lv_if_lt (tgt := 97) C.1 C.2.1 dX7_isOfKind_84 (by decide) (fun c11 => ?_) (fun c11 => ?_)
            · replace hf := ifp c11 hf
              exact rX7_isOfKind_97 C hr S _ _ _ _ hf G (lv_sub hl [] rfl)
            · replace hf := ifq c11 hf
              refine lv_iload_n C.1 C.2.1 dX7_isOfKind_87 rfl (lv_at hl 1 rfl) ?_
              refine lv_bipush (v := 20) C.1 C.2.1 dX7_isOfKind_88 (by decide) ?_
              refine lv_icmp_ge (tgt := 97) C.1 C.2.1 dX7_isOfKind_90 (by decide) (fun c12 => ?_) (fun c12 => ?_)
              · replace hf := ifp c12 hf
                exact rX7_isOfKind_97 C hr S _ _ _ _ hf G (lv_sub hl [] rfl)
              · replace hf := ifq c12 hf
                refine lv_iconst (v := 1) C.1 C.2.1 dX7_isOfKind_93 (by decide) ?_
                refine lv_goto (tgt := 98) C.1 C.2.1 dX7_isOfKind_94 (by decide) ?_
                exact r_zret C hr (Or.inr rfl) G hf dX7_isOfKind_98
          · replace hf := ifq c10 hf
            by_cases c13 : p1 = (5 : Int32)
            · replace hf := ifp c13 hf
              refine lv_tableIn (tgt := 99) C.1 C.2.1 dX7_isOfKind_1 (by rw [c13]; decide) (by rw [c13]; decide) (by rw [c13]; rfl) (by decide) ?_
              refine lv_iload_n C.1 C.2.1 dX7_isOfKind_99 rfl (lv_at hl 1 rfl) ?_
              refine lv_if_lt (tgt := 113) C.1 C.2.1 dX7_isOfKind_100 (by decide) (fun c14 => ?_) (fun c14 => ?_)
              · replace hf := ifp c14 hf
                exact rX7_isOfKind_113 C hr S _ _ _ _ hf G (lv_sub hl [] rfl)
              · replace hf := ifq c14 hf
                refine lv_iload_n C.1 C.2.1 dX7_isOfKind_103 rfl (lv_at hl 1 rfl) ?_
                refine lv_bipush (v := 28) C.1 C.2.1 dX7_isOfKind_104 (by decide) ?_
                refine lv_icmp_ge (tgt := 113) C.1 C.2.1 dX7_isOfKind_106 (by decide) (fun c15 => ?_) (fun c15 => ?_)
                · replace hf := ifp c15 hf
                  exact rX7_isOfKind_113 C hr S _ _ _ _ hf G (lv_sub hl [] rfl)
                · replace hf := ifq c15 hf
                  refine lv_iconst (v := 1) C.1 C.2.1 dX7_isOfKind_109 (by decide) ?_
                  refine lv_goto (tgt := 114) C.1 C.2.1 dX7_isOfKind_110 (by decide) ?_
                  exact r_zret C hr (Or.inr rfl) G hf dX7_isOfKind_114
            · replace hf := ifq c13 hf
              have nc1 : (p1).toInt ≠ 0 := nti c1
              have nc2 : (p1).toInt ≠ 1 := nti c2
              have nc5 : (p1).toInt ≠ 2 := nti c5
              have nc8 : (p1).toInt ≠ 3 := nti c8
              have nc10 : (p1).toInt ≠ 4 := nti c10
              have nc13 : (p1).toInt ≠ 5 := nti c13
              refine lv_tableOut (tgt := 115) C.1 C.2.1 dX7_isOfKind_1 (by omega) (by decide) ?_
              refine lv_iconst (v := 0) C.1 C.2.1 dX7_isOfKind_115 (by decide) ?_
              exact r_zret C hr (Or.inl rfl) G hf dX7_isOfKind_116
set_option maxRecDepth 100000 in
set_option maxHeartbeats 4000000 in
theorem rX4_length_1_19 {p : Program} {l : Launch} {e : Env} {s : State} {m : MethodId} {args : Array Value} {below : List Frame} {meth : Method} {c : Code} {D : va_G} {a : Nat → Nat} {cI cJ : ClassId} {tk : Nat} {tf : Nat → Int32} (C : Cx p s m args meth c RX4 cX4_length 2 D cI cJ tk tf (AR a 25 s.heap.size)) (hr : meth.sig.returnType = (some .int)) : ∀ (S : St) (x : Int32 × St) (H : Heap) (locs : List Loc) (ls : Array Slot), fX4_length_1_19 S = some x → Wd D (wE a cI cJ) (AR a 25 s.heap.size) s S H locs → lv_has ls 2 [] → W p l e { frames := 0, cells := 0, slots := 0, locals := 0 } s m args below meth c H locs 0 0 (MQ below (Qi D (wE a cI cJ) (AR a 25 s.heap.size) x) args s 0 0 (AR a 25 s.heap.size)) (F0 m 19 ls []) := by
  intro S x H locs ls hf G hl
  unfold fX4_length_1_19 at hf
  refine lv_iconst (v := 0) C.1 C.2.1 dX4_length_19 (by decide) ?_
  exact r_iret C hr G hf dX4_length_20
set_option maxRecDepth 100000 in
set_option maxHeartbeats 4000000 in
theorem mX4_length_1 (l : Launch) (D : va_G) (a : Nat → Nat) (cI cJ : ClassId) (tk : Nat) (tf : Nat → Int32) (p1 : Int32) (S : St) (x : Int32 × St) (hf : fX4_length_1 p1 S = some x) : Mi l D (wE a cI cJ) a 25 cI cJ tk tf yX4_length cX4_length 2 (some .int) { frames := 0, cells := 0, slots := 0, locals := 0 } [.ref (a 1), .int p1] S x := by
  refine opn_i (by decide +kernel) (Nat.le_of_ble_eq_true rfl) (fun p e s m below meth c C hr G ls hl => ?_)
  replace hl : lv_has ls 2 [(0, .ref (a 1)), (1, .int p1)] := hl
  unfold fX4_length_1 at hf
  refine lv_iload_n C.1 C.2.1 dX4_length_0 rfl (lv_at hl 1 rfl) ?_
  refine lv_if_lt (tgt := 19) C.1 C.2.1 dX4_length_1 (by decide) (fun c1 => ?_) (fun c1 => ?_)
  · replace hf := ifp c1 hf
    exact rX4_length_1_19 C hr S _ _ _ _ hf G (lv_sub hl [] rfl)
  · replace hf := ifq c1 hf
    refine lv_iload_n C.1 C.2.1 dX4_length_4 rfl (lv_at hl 1 rfl) ?_
    refine lv_bipush (v := 20) C.1 C.2.1 dX4_length_5 (by decide) ?_
    refine lv_icmp_ge (tgt := 19) C.1 C.2.1 dX4_length_7 (by decide) (fun c2 => ?_) (fun c2 => ?_)
    · replace hf := ifp c2 hf
      exact rX4_length_1_19 C hr S _ _ _ _ hf G (lv_sub hl [] rfl)
    · replace hf := ifq c2 hf
      refine lv_aload_n C.1 C.2.1 dX4_length_10 rfl (lv_at hl 0 rfl) ?_
      refine gE_1_2 C G k_89 dX4_length_11 ?_
      refine lv_iload_n C.1 C.2.1 dX4_length_14 rfl (lv_at hl 1 rfl) ?_
      obtain ⟨hi3, hf⟩ := ifn hf
      refine aE_4 C G hi3 dX4_length_15 ?_
      refine lv_goto (tgt := 20) C.1 C.2.1 dX4_length_16 (by decide) ?_
      exact r_iret C hr G hf dX4_length_20
set_option maxRecDepth 100000 in
set_option maxHeartbeats 4000000 in
theorem rX4_append_1_19 {p : Program} {l : Launch} {e : Env} {s : State} {m : MethodId} {args : Array Value} {below : List Frame} {meth : Method} {c : Code} {D : va_G} {a : Nat → Nat} {cI cJ : ClassId} {tk : Nat} {tf : Nat → Int32} (C : Cx p s m args meth c RX4 cX4_append 5 D cI cJ tk tf (AR a 25 s.heap.size)) (hr : meth.sig.returnType = (some .int)) : ∀ (S : St) (x : Int32 × St) (H : Heap) (locs : List Loc) (ls : Array Slot), fX4_append_1_19 S = some x → Wd D (wE a cI cJ) (AR a 25 s.heap.size) s S H locs → lv_has ls 5 [] → W p l e { frames := 1, cells := 0, slots := 0, locals := 21 } s m args below meth c H locs 0 0 (MQ below (Qi D (wE a cI cJ) (AR a 25 s.heap.size) x) args s 0 0 (AR a 25 s.heap.size)) (F0 m 19 ls []) := by
  intro S x H locs ls hf G hl
  unfold fX4_append_1_19 at hf
  refine lv_iconst (v := (-1)) C.1 C.2.1 dX4_append_19 (by decide) ?_
  exact r_iret C hr G hf dX4_append_20
set_option maxRecDepth 100000 in
set_option maxHeartbeats 4000000 in
theorem mX4_append_1 (l : Launch) (D : va_G) (a : Nat → Nat) (cI cJ : ClassId) (tk : Nat) (tf : Nat → Int32) (p1 : Int32) (p2 : Int32) (p3 : Int32) (S : St) (x : Int32 × St) (hf : fX4_append_1 p1 p2 p3 S = some x) : Mi l D (wE a cI cJ) a 25 cI cJ tk tf yX4_append cX4_append 5 (some .int) { frames := 1, cells := 0, slots := 0, locals := 21 } [.ref (a 1), .int p1, .int p2, .int p3] S x := by
  refine opn_i (by decide +kernel) (Nat.le_of_ble_eq_true rfl) (fun p e s m below meth c C hr G ls hl => ?_)
  replace hl : lv_has ls 5 [(0, .ref (a 1)), (1, .int p1), (2, .int p2), (3, .int p3)] := hl
  unfold fX4_append_1 at hf
  refine lv_aload_n C.1 C.2.1 dX4_append_0 rfl (lv_at hl 0 rfl) ?_
  refine lv_iload_n C.1 C.2.1 dX4_append_1 rfl (lv_at hl 1 rfl) ?_
  obtain ⟨r1, S1, eS1, hf⟩ := bnd_e hf
  refine r_cali (As := [.int p1]) (na := 1) C adE G (mX4_has_1 l D a cI cJ tk tf p1 S _ eS1) k_274 k_260 k_261 k_60 k_262 (q0 := 1) rfl (ci := 4) rfl (by decide +kernel) ⟨Nat.le_of_ble_eq_true rfl, Nat.le_of_ble_eq_true rfl⟩ rfl rfl ⟨Nat.zero_le _, Nat.zero_le _⟩ rfl hl.1 rfl (Nat.le_of_ble_eq_true rfl) dX4_append_2 (fun H locs G => ?_)
  refine lv_if_eq (tgt := 19) C.1 C.2.1 dX4_append_5 (by decide) (fun c2 => ?_) (fun c2 => ?_)
  · replace hf := ifp c2 hf
    exact rX4_append_1_19 C hr S1 _ _ _ _ hf G (lv_sub hl [] rfl)
  · replace hf := ifq c2 hf
    refine lv_aload_n C.1 C.2.1 dX4_append_8 rfl (lv_at hl 0 rfl) ?_
    refine gE_1_2 C G k_89 dX4_append_9 ?_
    refine lv_iload_n C.1 C.2.1 dX4_append_12 rfl (lv_at hl 1 rfl) ?_
    obtain ⟨hi3, hf⟩ := ifn hf
    refine aE_4 C G hi3 dX4_append_13 ?_
    refine lv_bipush (v := 24) C.1 C.2.1 dX4_append_14 (by decide) ?_
    refine lv_icmp_lt (tgt := 21) C.1 C.2.1 dX4_append_16 (by decide) (fun c4 => ?_) (fun c4 => ?_)
    · replace hf := ifp c4 hf
      refine lv_iload_n C.1 C.2.1 dX4_append_21 rfl (lv_at hl 1 rfl) ?_
      refine lv_bipush (v := 24) C.1 C.2.1 dX4_append_22 (by decide) ?_
      refine lv_imul C.1 C.2.1 dX4_append_24 ?_
      refine lv_aload_n C.1 C.2.1 dX4_append_25 rfl (lv_at hl 0 rfl) ?_
      refine gE_1_2 C G k_89 dX4_append_26 ?_
      refine lv_iload_n C.1 C.2.1 dX4_append_29 rfl (lv_at hl 1 rfl) ?_
      obtain ⟨hi5, hf⟩ := ifn hf
      refine aE_4 C G hi5 dX4_append_30 ?_
      refine lv_iadd C.1 C.2.1 dX4_append_31 ?_
      obtain ⟨y6, ey6, hf⟩ := stv_e hf
      refine nm_i ey6 ?_
      refine lv_istore (lv' := [(4, .int y6), (0, .ref (a 1)), (1, .int p1), (2, .int p2), (3, .int p3)]) C.1 C.2.1 dX4_append_32 hl (by decide) rfl (fun ls hl => ?_)
      refine lv_aload_n C.1 C.2.1 dX4_append_34 rfl (lv_at hl 1 rfl) ?_
      refine gE_1_0 C G k_87 dX4_append_35 ?_
      refine lv_iload C.1 C.2.1 dX4_append_38 (lv_at hl 0 rfl) ?_
      refine lv_iload_n C.1 C.2.1 dX4_append_40 rfl (lv_at hl 3 rfl) ?_
      obtain ⟨hi7, hf⟩ := ifn hf
      refine sE_2 C G hi7 dX4_append_41 (fun H locs G => ?_)
      obtain ⟨S7, eS7, hf⟩ := stp_e hf
      rw [← eS7] at G
      clear eS7
      refine lv_aload_n C.1 C.2.1 dX4_append_42 rfl (lv_at hl 1 rfl) ?_
      refine gE_1_1 C G k_88 dX4_append_43 ?_
      refine lv_iload C.1 C.2.1 dX4_append_46 (lv_at hl 0 rfl) ?_
      refine lv_iload_n C.1 C.2.1 dX4_append_48 rfl (lv_at hl 4 rfl) ?_
      obtain ⟨hi8, hf⟩ := ifn hf
      refine sE_3 C G hi8 dX4_append_49 (fun H locs G => ?_)
      obtain ⟨S8, eS8, hf⟩ := stp_e hf
      rw [← eS8] at G
      clear eS8
      refine lv_aload_n C.1 C.2.1 dX4_append_50 rfl (lv_at hl 1 rfl) ?_
      refine gE_1_2 C G k_89 dX4_append_51 ?_
      refine lv_iload_n C.1 C.2.1 dX4_append_54 rfl (lv_at hl 2 rfl) ?_
      refine lv_dup2_11 C.1 C.2.1 dX4_append_55 rfl rfl ?_
      obtain ⟨hi9, hf⟩ := ifn hf
      refine aE_4 C G hi9 dX4_append_56 ?_
      refine lv_iconst (v := 1) C.1 C.2.1 dX4_append_57 (by decide) ?_
      refine lv_iadd C.1 C.2.1 dX4_append_58 ?_
      obtain ⟨hi10, hf⟩ := ifn hf
      refine sE_4 C G hi10 dX4_append_59 (fun H locs G => ?_)
      obtain ⟨S10, eS10, hf⟩ := stp_e hf
      rw [← eS10] at G
      clear eS10
      refine lv_aload_n C.1 C.2.1 dX4_append_60 rfl (lv_at hl 1 rfl) ?_
      refine gE_1_2 C G k_89 dX4_append_61 ?_
      refine lv_iload_n C.1 C.2.1 dX4_append_64 rfl (lv_at hl 2 rfl) ?_
      obtain ⟨hi11, hf⟩ := ifn hf
      refine aE_4 C G hi11 dX4_append_65 ?_
      exact r_iret C hr G hf dX4_append_66
    · replace hf := ifq c4 hf
      exact rX4_append_1_19 C hr S1 _ _ _ _ hf G (lv_sub hl [] rfl)
set_option maxRecDepth 100000 in
set_option maxHeartbeats 4000000 in
theorem rX7_token_0_20 {p : Program} {l : Launch} {e : Env} {s : State} {m : MethodId} {args : Array Value} {below : List Frame} {meth : Method} {c : Code} {D : va_G} {a : Nat → Nat} {cI cJ : ClassId} {tk : Nat} {tf : Nat → Int32} (C : Cx p s m args meth c RX7 cX7_token 4 D cI cJ tk tf (AR a 25 s.heap.size)) (hr : meth.sig.returnType = (some .int)) : ∀ (S : St) (x : Int32 × St) (H : Heap) (locs : List Loc) (ls : Array Slot), fX7_token_0_20 S = some x → Wd D (wE a cI cJ) (AR a 25 s.heap.size) s S H locs → lv_has ls 4 [] → W p l e { frames := 2, cells := 0, slots := 0, locals := 45 } s m args below meth c H locs 0 0 (MQ below (Qi D (wE a cI cJ) (AR a 25 s.heap.size) x) args s 0 0 (AR a 25 s.heap.size)) (F0 m 20 ls []) := by
  intro S x H locs ls hf G hl
  unfold fX7_token_0_20 at hf
  refine lv_iconst (v := (-1)) C.1 C.2.1 dX7_token_20 (by decide) ?_
  exact r_iret C hr G hf dX7_token_21
set_option maxRecDepth 100000 in
set_option maxHeartbeats 4000000 in
theorem mX7_token_0 (l : Launch) (D : va_G) (a : Nat → Nat) (cI cJ : ClassId) (tk : Nat) (tf : Nat → Int32) (p1 : Int32) (p2 : Int32) (p3 : Int32) (S : St) (x : Int32 × St) (hf : fX7_token_0 p1 p2 p3 S = some x) : Mi l D (wE a cI cJ) a 25 cI cJ tk tf yX7_token cX7_token 4 (some .int) { frames := 2, cells := 0, slots := 0, locals := 45 } [.ref (a 0), .int p1, .int p2, .int p3] S x := by
  refine opn_i (by decide +kernel) (Nat.le_of_ble_eq_true rfl) (fun p e s m below meth c C hr G ls hl => ?_)
  replace hl : lv_has ls 4 [(0, .ref (a 0)), (1, .int p1), (2, .int p2), (3, .int p3)] := hl
  unfold fX7_token_0 at hf
  refine lv_aload_n C.1 C.2.1 dX7_token_0 rfl (lv_at hl 0 rfl) ?_
  refine gE_0_0 C G k_221 dX7_token_1 ?_
  refine lv_iload_n C.1 C.2.1 dX7_token_4 rfl (lv_at hl 1 rfl) ?_
  obtain ⟨r1, S1, eS1, hf⟩ := bnd_e hf
  refine r_cali (As := [.int p1]) (na := 1) C adE G (mX4_has_1 l D a cI cJ tk tf p1 S _ eS1) k_259 k_260 k_261 k_60 k_262 (q0 := 1) rfl (ci := 4) rfl (by decide +kernel) ⟨Nat.le_of_ble_eq_true rfl, Nat.le_of_ble_eq_true rfl⟩ rfl rfl ⟨Nat.zero_le _, Nat.zero_le _⟩ rfl hl.1 rfl (Nat.le_of_ble_eq_true rfl) dX7_token_5 (fun H locs G => ?_)
  refine lv_if_eq (tgt := 20) C.1 C.2.1 dX7_token_8 (by decide) (fun c2 => ?_) (fun c2 => ?_)
  · replace hf := ifp c2 hf
    exact rX7_token_0_20 C hr S1 _ _ _ _ hf G (lv_sub hl [] rfl)
  · replace hf := ifq c2 hf
    refine lv_iload_n C.1 C.2.1 dX7_token_11 rfl (lv_at hl 2 rfl) ?_
    refine lv_if_lt (tgt := 20) C.1 C.2.1 dX7_token_12 (by decide) (fun c3 => ?_) (fun c3 => ?_)
    · replace hf := ifp c3 hf
      exact rX7_token_0_20 C hr S1 _ _ _ _ hf G (lv_sub hl [] rfl)
    · replace hf := ifq c3 hf
      refine lv_iload_n C.1 C.2.1 dX7_token_15 rfl (lv_at hl 2 rfl) ?_
      refine lv_iconst (v := 5) C.1 C.2.1 dX7_token_16 (by decide) ?_
      refine lv_icmp_le (tgt := 22) C.1 C.2.1 dX7_token_17 (by decide) (fun c4 => ?_) (fun c4 => ?_)
      · replace hf := ifp c4 hf
        refine lv_iload_n C.1 C.2.1 dX7_token_22 rfl (lv_at hl 2 rfl) ?_
        refine lv_iload_n C.1 C.2.1 dX7_token_23 rfl (lv_at hl 3 rfl) ?_
        obtain ⟨r5, S5, eS5, hf⟩ := bnd_e hf
        refine r_cals (As := [.int p2, .int p3]) (na := 2) C adE G (mX7_isOfKind l D a cI cJ tk tf p2 p3 S1 _ eS5) k_263 k_264 k_59 k_265 (by decide +kernel) ⟨Nat.le_of_ble_eq_true rfl, Nat.le_of_ble_eq_true rfl⟩ rfl rfl ⟨Nat.zero_le _, Nat.zero_le _⟩ rfl hl.1 rfl (Nat.le_of_ble_eq_true rfl) dX7_token_24 (fun H locs G => ?_)
        refine lv_if_ne (tgt := 33) C.1 C.2.1 dX7_token_27 (by decide) (fun c6 => ?_) (fun c6 => ?_)
        · replace hf := ifq c6 hf
          refine lv_aload_n C.1 C.2.1 dX7_token_33 rfl (lv_at hl 0 rfl) ?_
          refine gE_0_0 C G k_221 dX7_token_34 ?_
          refine lv_iload_n C.1 C.2.1 dX7_token_37 rfl (lv_at hl 1 rfl) ?_
          obtain ⟨r7, S7, eS7, hf⟩ := bnd_e hf
          refine r_cali (As := [.int p1]) (na := 1) C adE G (mX4_length_1 l D a cI cJ tk tf p1 S5 _ eS7) k_266 k_267 k_268 k_60 k_269 (q0 := 1) rfl (ci := 4) rfl (by decide +kernel) ⟨Nat.le_of_ble_eq_true rfl, Nat.le_of_ble_eq_true rfl⟩ rfl rfl ⟨Nat.zero_le _, Nat.zero_le _⟩ rfl hl.1 rfl (Nat.le_of_ble_eq_true rfl) dX7_token_38 (fun H locs G => ?_)
          refine lv_bipush (v := 24) C.1 C.2.1 dX7_token_41 (by decide) ?_
          refine lv_icmp_lt (tgt := 49) C.1 C.2.1 dX7_token_43 (by decide) (fun c8 => ?_) (fun c8 => ?_)
          · replace hf := ifp c8 hf
            refine lv_aload_n C.1 C.2.1 dX7_token_49 rfl (lv_at hl 0 rfl) ?_
            refine gE_0_0 C G k_221 dX7_token_50 ?_
            refine lv_iload_n C.1 C.2.1 dX7_token_53 rfl (lv_at hl 1 rfl) ?_
            refine lv_iload_n C.1 C.2.1 dX7_token_54 rfl (lv_at hl 2 rfl) ?_
            refine lv_iload_n C.1 C.2.1 dX7_token_55 rfl (lv_at hl 3 rfl) ?_
            obtain ⟨r9, S9, eS9, hf⟩ := bnd_e hf
            refine r_cali (As := [.int p1, .int p2, .int p3]) (na := 3) C adE G (mX4_append_1 l D a cI cJ tk tf p1 p2 p3 S7 _ eS9) k_270 k_271 k_272 k_60 k_273 (q0 := 1) rfl (ci := 4) rfl (by decide +kernel) ⟨Nat.le_of_ble_eq_true rfl, Nat.le_of_ble_eq_true rfl⟩ rfl rfl ⟨Nat.zero_le _, Nat.zero_le _⟩ rfl hl.1 rfl (Nat.le_of_ble_eq_true rfl) dX7_token_56 (fun H locs G => ?_)
            exact r_iret C hr G hf dX7_token_59
          · replace hf := ifq c8 hf
            refine lv_bipush (v := (-4)) C.1 C.2.1 dX7_token_46 (by decide) ?_
            exact r_iret C hr G hf dX7_token_48
        · replace hf := ifp c6 hf
          refine lv_bipush (v := (-2)) C.1 C.2.1 dX7_token_30 (by decide) ?_
          exact r_iret C hr G hf dX7_token_32
      · replace hf := ifq c4 hf
        exact rX7_token_0_20 C hr S1 _ _ _ _ hf G (lv_sub hl [] rfl)
set_option maxRecDepth 100000 in
set_option maxHeartbeats 4000000 in
theorem rX4_wipe_1_21 {p : Program} {l : Launch} {e : Env} {s : State} {m : MethodId} {args : Array Value} {below : List Frame} {meth : Method} {c : Code} {D : va_G} {a : Nat → Nat} {cI cJ : ClassId} {tk : Nat} {tf : Nat → Int32} (C : Cx p s m args meth c RX4 cX4_wipe 3 D cI cJ tk tf (AR a 25 s.heap.size)) (hr : meth.sig.returnType = (some .int)) : ∀ (q2 : Int32) (S : St) (x : Int32 × St) (H : Heap) (locs : List Loc) (ls : Array Slot), fX4_wipe_1_21 q2 S = some x → Wd D (wE a cI cJ) (AR a 25 s.heap.size) s S H locs → lv_has ls 3 [(2, .int q2)] → W p l e { frames := 1, cells := 0, slots := 0, locals := 21 } s m args below meth c H locs 0 0 (MQ below (Qi D (wE a cI cJ) (AR a 25 s.heap.size) x) args s 0 0 (AR a 25 s.heap.size)) (F0 m 21 ls []) := by
  intro q2 S x H locs ls hf G hl
  unfold fX4_wipe_1_21 at hf
  refine lv_iload_n C.1 C.2.1 dX4_wipe_21 rfl (lv_at hl 0 rfl) ?_
  exact r_iret C hr G hf dX4_wipe_22
set_option maxRecDepth 100000 in
set_option maxHeartbeats 4000000 in
theorem mX4_wipe_1 (l : Launch) (D : va_G) (a : Nat → Nat) (cI cJ : ClassId) (tk : Nat) (tf : Nat → Int32) (p1 : Int32) (S : St) (x : Int32 × St) (hf : fX4_wipe_1 p1 S = some x) : Mi l D (wE a cI cJ) a 25 cI cJ tk tf yX4_wipe cX4_wipe 3 (some .int) { frames := 1, cells := 0, slots := 0, locals := 21 } [.ref (a 1), .int p1] S x := by
  refine opn_i (by decide +kernel) (Nat.le_of_ble_eq_true rfl) (fun p e s m below meth c C hr G ls hl => ?_)
  replace hl : lv_has ls 3 [(0, .ref (a 1)), (1, .int p1)] := hl
  unfold fX4_wipe_1 at hf
  refine lv_aload_n C.1 C.2.1 dX4_wipe_0 rfl (lv_at hl 0 rfl) ?_
  refine lv_iload_n C.1 C.2.1 dX4_wipe_1 rfl (lv_at hl 1 rfl) ?_
  obtain ⟨r1, S1, eS1, hf⟩ := bnd_e hf
  refine r_cali (As := [.int p1]) (na := 1) C adE G (mX4_length_1 l D a cI cJ tk tf p1 S _ eS1) k_283 k_267 k_268 k_60 k_269 (q0 := 1) rfl (ci := 4) rfl (by decide +kernel) ⟨Nat.le_of_ble_eq_true rfl, Nat.le_of_ble_eq_true rfl⟩ rfl rfl ⟨Nat.zero_le _, Nat.zero_le _⟩ rfl hl.1 rfl (Nat.le_of_ble_eq_true rfl) dX4_wipe_2 (fun H locs G => ?_)
  refine lv_istore_n (lv' := [(2, .int r1), (0, .ref (a 1)), (1, .int p1)]) C.1 C.2.1 dX4_wipe_5 rfl hl (by decide) rfl (fun ls hl => ?_)
  refine lv_aload_n C.1 C.2.1 dX4_wipe_6 rfl (lv_at hl 1 rfl) ?_
  refine lv_iload_n C.1 C.2.1 dX4_wipe_7 rfl (lv_at hl 2 rfl) ?_
  obtain ⟨r2, S2, eS2, hf⟩ := bnd_e hf
  refine r_cali (As := [.int p1]) (na := 1) C adE G (mX4_has_1 l D a cI cJ tk tf p1 S1 _ eS2) k_274 k_260 k_261 k_60 k_262 (q0 := 1) rfl (ci := 4) rfl (by decide +kernel) ⟨Nat.le_of_ble_eq_true rfl, Nat.le_of_ble_eq_true rfl⟩ rfl rfl ⟨Nat.zero_le _, Nat.zero_le _⟩ rfl hl.1 rfl (Nat.le_of_ble_eq_true rfl) dX4_wipe_8 (fun H locs G => ?_)
  refine lv_if_eq (tgt := 21) C.1 C.2.1 dX4_wipe_11 (by decide) (fun c3 => ?_) (fun c3 => ?_)
  · replace hf := ifp c3 hf
    exact rX4_wipe_1_21 C hr r1 S2 _ _ _ _ hf G (lv_sub hl [0] rfl)
  · replace hf := ifq c3 hf
    refine lv_aload_n C.1 C.2.1 dX4_wipe_14 rfl (lv_at hl 1 rfl) ?_
    refine gE_1_2 C G k_89 dX4_wipe_15 ?_
    refine lv_iload_n C.1 C.2.1 dX4_wipe_18 rfl (lv_at hl 2 rfl) ?_
    refine lv_iconst (v := 0) C.1 C.2.1 dX4_wipe_19 (by decide) ?_
    obtain ⟨hi4, hf⟩ := ifn hf
    refine sE_4 C G hi4 dX4_wipe_20 (fun H locs G => ?_)
    obtain ⟨S4, eS4, hf⟩ := stp_e hf
    rw [← eS4] at G
    clear eS4
    exact rX4_wipe_1_21 C hr r1 S4 _ _ _ _ hf G (lv_sub hl [0] rfl)
set_option maxRecDepth 100000 in
set_option maxHeartbeats 4000000 in
theorem mX7_clear_0 (l : Launch) (D : va_G) (a : Nat → Nat) (cI cJ : ClassId) (tk : Nat) (tf : Nat → Int32) (p1 : Int32) (S : St) (x : Int32 × St) (hf : fX7_clear_0 p1 S = some x) : Mi l D (wE a cI cJ) a 25 cI cJ tk tf yX7_clear cX7_clear 2 (some .int) { frames := 2, cells := 0, slots := 0, locals := 43 } [.ref (a 0), .int p1] S x := by
  refine opn_i (by decide +kernel) (Nat.le_of_ble_eq_true rfl) (fun p e s m below meth c C hr G ls hl => ?_)
  replace hl : lv_has ls 2 [(0, .ref (a 0)), (1, .int p1)] := hl
  unfold fX7_clear_0 at hf
  refine lv_aload_n C.1 C.2.1 dX7_clear_0 rfl (lv_at hl 0 rfl) ?_
  refine gE_0_0 C G k_221 dX7_clear_1 ?_
  refine lv_iload_n C.1 C.2.1 dX7_clear_4 rfl (lv_at hl 1 rfl) ?_
  obtain ⟨r1, S1, eS1, hf⟩ := bnd_e hf
  refine r_cali (As := [.int p1]) (na := 1) C adE G (mX4_has_1 l D a cI cJ tk tf p1 S _ eS1) k_259 k_260 k_261 k_60 k_262 (q0 := 1) rfl (ci := 4) rfl (by decide +kernel) ⟨Nat.le_of_ble_eq_true rfl, Nat.le_of_ble_eq_true rfl⟩ rfl rfl ⟨Nat.zero_le _, Nat.zero_le _⟩ rfl hl.1 rfl (Nat.le_of_ble_eq_true rfl) dX7_clear_5 (fun H locs G => ?_)
  refine lv_if_eq (tgt := 22) C.1 C.2.1 dX7_clear_8 (by decide) (fun c2 => ?_) (fun c2 => ?_)
  · replace hf := ifp c2 hf
    refine lv_iconst (v := (-1)) C.1 C.2.1 dX7_clear_22 (by decide) ?_
    exact r_iret C hr G hf dX7_clear_23
  · replace hf := ifq c2 hf
    refine lv_aload_n C.1 C.2.1 dX7_clear_11 rfl (lv_at hl 0 rfl) ?_
    refine gE_0_0 C G k_221 dX7_clear_12 ?_
    refine lv_iload_n C.1 C.2.1 dX7_clear_15 rfl (lv_at hl 1 rfl) ?_
    obtain ⟨r3, S3, eS3, hf⟩ := bnd_e hf
    refine r_cali (As := [.int p1]) (na := 1) C adE G (mX4_wipe_1 l D a cI cJ tk tf p1 S1 _ eS3) k_279 k_280 k_281 k_60 k_282 (q0 := 1) rfl (ci := 4) rfl (by decide +kernel) ⟨Nat.le_of_ble_eq_true rfl, Nat.le_of_ble_eq_true rfl⟩ rfl rfl ⟨Nat.zero_le _, Nat.zero_le _⟩ rfl hl.1 rfl (Nat.le_of_ble_eq_true rfl) dX7_clear_16 (fun H locs G => ?_)
    refine lv_goto (tgt := 23) C.1 C.2.1 dX7_clear_19 (by decide) ?_
    exact r_iret C hr G hf dX7_clear_23
set_option maxRecDepth 100000 in
set_option maxHeartbeats 4000000 in
theorem mX2_put_5 (l : Launch) (D : va_G) (a : Nat → Nat) (cI cJ : ClassId) (tk : Nat) (tf : Nat → Int32) (p1 : Int32) (p2 : Int32) (S : St) (x : Int32 × St) (hf : fX2_put_5 p1 p2 S = some x) : Mi l D (wE a cI cJ) a 25 cI cJ tk tf yX2_put cX2_put 3 (some .boolean) { frames := 0, cells := 0, slots := 0, locals := 0 } [.ref (a 5), .int p1, .int p2] S x := by
  refine opn_i (by decide +kernel) (Nat.le_of_ble_eq_true rfl) (fun p e s m below meth c C hr G ls hl => ?_)
  replace hl : lv_has ls 3 [(0, .ref (a 5)), (1, .int p1), (2, .int p2)] := hl
  unfold fX2_put_5 at hf
  refine lv_aload_n C.1 C.2.1 dX2_put_0 rfl (lv_at hl 0 rfl) ?_
  refine gE_5_2 C G k_112 dX2_put_1 ?_
  refine lv_bipush (v := 60) C.1 C.2.1 dX2_put_4 (by decide) ?_
  refine lv_icmp_lt (tgt := 11) C.1 C.2.1 dX2_put_6 (by decide) (fun c1 => ?_) (fun c1 => ?_)
  · replace hf := ifp c1 hf
    refine lv_aload_n C.1 C.2.1 dX2_put_11 rfl (lv_at hl 0 rfl) ?_
    refine gE_5_0 C G k_110 dX2_put_12 ?_
    refine lv_aload_n C.1 C.2.1 dX2_put_15 rfl (lv_at hl 0 rfl) ?_
    refine gE_5_2 C G k_112 dX2_put_16 ?_
    refine lv_iload_n C.1 C.2.1 dX2_put_19 rfl (lv_at hl 1 rfl) ?_
    obtain ⟨hi2, hf⟩ := ifn hf
    refine sE_6 C G hi2 dX2_put_20 (fun H locs G => ?_)
    obtain ⟨S2, eS2, hf⟩ := stp_e hf
    rw [← eS2] at G
    clear eS2
    refine lv_aload_n C.1 C.2.1 dX2_put_21 rfl (lv_at hl 0 rfl) ?_
    refine gE_5_1 C G k_111 dX2_put_22 ?_
    refine lv_aload_n C.1 C.2.1 dX2_put_25 rfl (lv_at hl 0 rfl) ?_
    refine gE_5_2 C G k_112 dX2_put_26 ?_
    refine lv_iload_n C.1 C.2.1 dX2_put_29 rfl (lv_at hl 2 rfl) ?_
    obtain ⟨hi3, hf⟩ := ifn hf
    refine sE_7 C G hi3 dX2_put_30 (fun H locs G => ?_)
    obtain ⟨S3, eS3, hf⟩ := stp_e hf
    rw [← eS3] at G
    clear eS3
    refine lv_aload_n C.1 C.2.1 dX2_put_31 rfl (lv_at hl 0 rfl) ?_
    refine lv_dup C.1 C.2.1 dX2_put_32 rfl ?_
    refine gE_5_2 C G k_112 dX2_put_33 ?_
    refine lv_iconst (v := 1) C.1 C.2.1 dX2_put_36 (by decide) ?_
    refine lv_iadd C.1 C.2.1 dX2_put_37 ?_
    refine pE_5_2 C G k_112 dX2_put_38 (fun H locs G => ?_)
    obtain ⟨S4, eS4, hf⟩ := stp_e hf
    rw [← eS4] at G
    clear eS4
    refine lv_iconst (v := 1) C.1 C.2.1 dX2_put_41 (by decide) ?_
    exact r_zret C hr (Or.inr rfl) G hf dX2_put_42
  · replace hf := ifq c1 hf
    refine lv_iconst (v := 0) C.1 C.2.1 dX2_put_9 (by decide) ?_
    exact r_zret C hr (Or.inl rfl) G hf dX2_put_10
set_option maxRecDepth 100000 in
set_option maxHeartbeats 4000000 in
theorem mX2_count_5 (l : Launch) (D : va_G) (a : Nat → Nat) (cI cJ : ClassId) (tk : Nat) (tf : Nat → Int32) (S : St) (x : Int32 × St) (hf : fX2_count_5 S = some x) : Mi l D (wE a cI cJ) a 25 cI cJ tk tf yX2_count cX2_count 1 (some .int) { frames := 0, cells := 0, slots := 0, locals := 0 } [.ref (a 5)] S x := by
  refine opn_i (by decide +kernel) (Nat.le_of_ble_eq_true rfl) (fun p e s m below meth c C hr G ls hl => ?_)
  replace hl : lv_has ls 1 [(0, .ref (a 5))] := hl
  unfold fX2_count_5 at hf
  refine lv_aload_n C.1 C.2.1 dX2_count_0 rfl (lv_at hl 0 rfl) ?_
  refine gE_5_2 C G k_112 dX2_count_1 ?_
  exact r_iret C hr G hf dX2_count_4
set_option maxRecDepth 100000 in
set_option maxHeartbeats 4000000 in
theorem rX7_push_0_9 {p : Program} {l : Launch} {e : Env} {s : State} {m : MethodId} {args : Array Value} {below : List Frame} {meth : Method} {c : Code} {D : va_G} {a : Nat → Nat} {cI cJ : ClassId} {tk : Nat} {tf : Nat → Int32} (C : Cx p s m args meth c RX7 cX7_push 3 D cI cJ tk tf (AR a 25 s.heap.size)) (hr : meth.sig.returnType = (some .int)) : ∀ (S : St) (x : Int32 × St) (H : Heap) (locs : List Loc) (ls : Array Slot), fX7_push_0_9 S = some x → Wd D (wE a cI cJ) (AR a 25 s.heap.size) s S H locs → lv_has ls 3 [] → W p l e { frames := 1, cells := 0, slots := 0, locals := 22 } s m args below meth c H locs 0 0 (MQ below (Qi D (wE a cI cJ) (AR a 25 s.heap.size) x) args s 0 0 (AR a 25 s.heap.size)) (F0 m 9 ls []) := by
  intro S x H locs ls hf G hl
  unfold fX7_push_0_9 at hf
  refine lv_iconst (v := (-1)) C.1 C.2.1 dX7_push_9 (by decide) ?_
  exact r_iret C hr G hf dX7_push_10
set_option maxRecDepth 100000 in
set_option maxHeartbeats 4000000 in
theorem mX7_push_0 (l : Launch) (D : va_G) (a : Nat → Nat) (cI cJ : ClassId) (tk : Nat) (tf : Nat → Int32) (p1 : Int32) (p2 : Int32) (S : St) (x : Int32 × St) (hf : fX7_push_0 p1 p2 S = some x) : Mi l D (wE a cI cJ) a 25 cI cJ tk tf yX7_push cX7_push 3 (some .int) { frames := 1, cells := 0, slots := 0, locals := 22 } [.ref (a 0), .int p1, .int p2] S x := by
  refine opn_i (by decide +kernel) (Nat.le_of_ble_eq_true rfl) (fun p e s m below meth c C hr G ls hl => ?_)
  replace hl : lv_has ls 3 [(0, .ref (a 0)), (1, .int p1), (2, .int p2)] := hl
  unfold fX7_push_0 at hf
  refine lv_iload_n C.1 C.2.1 dX7_push_0 rfl (lv_at hl 1 rfl) ?_
  refine lv_if_lt (tgt := 9) C.1 C.2.1 dX7_push_1 (by decide) (fun c1 => ?_) (fun c1 => ?_)
  · replace hf := ifp c1 hf
    exact rX7_push_0_9 C hr S _ _ _ _ hf G (lv_sub hl [] rfl)
  · replace hf := ifq c1 hf
    refine lv_iload_n C.1 C.2.1 dX7_push_4 rfl (lv_at hl 1 rfl) ?_
    refine lv_iconst (v := 4) C.1 C.2.1 dX7_push_5 (by decide) ?_
    refine lv_icmp_le (tgt := 11) C.1 C.2.1 dX7_push_6 (by decide) (fun c2 => ?_) (fun c2 => ?_)
    · replace hf := ifp c2 hf
      refine lv_iload_n C.1 C.2.1 dX7_push_11 rfl (lv_at hl 1 rfl) ?_
      refine lv_iload_n C.1 C.2.1 dX7_push_12 rfl (lv_at hl 2 rfl) ?_
      obtain ⟨r3, S3, eS3, hf⟩ := bnd_e hf
      refine r_cals (As := [.int p1, .int p2]) (na := 2) C adE G (mX7_isOfKind l D a cI cJ tk tf p1 p2 S _ eS3) k_263 k_264 k_59 k_265 (by decide +kernel) ⟨Nat.le_of_ble_eq_true rfl, Nat.le_of_ble_eq_true rfl⟩ rfl rfl ⟨Nat.zero_le _, Nat.zero_le _⟩ rfl hl.1 rfl (Nat.le_of_ble_eq_true rfl) dX7_push_13 (fun H locs G => ?_)
      refine lv_if_ne (tgt := 22) C.1 C.2.1 dX7_push_16 (by decide) (fun c4 => ?_) (fun c4 => ?_)
      · replace hf := ifq c4 hf
        refine lv_aload_n C.1 C.2.1 dX7_push_22 rfl (lv_at hl 0 rfl) ?_
        refine gE_0_2 C G k_223 dX7_push_23 ?_
        refine lv_iload_n C.1 C.2.1 dX7_push_26 rfl (lv_at hl 1 rfl) ?_
        refine lv_iload_n C.1 C.2.1 dX7_push_27 rfl (lv_at hl 2 rfl) ?_
        obtain ⟨r5, S5, eS5, hf⟩ := bnd_e hf
        refine r_cali (As := [.int p1, .int p2]) (na := 2) C adE G (mX2_put_5 l D a cI cJ tk tf p1 p2 S3 _ eS5) k_288 k_289 k_290 k_62 k_291 (q0 := 5) rfl (ci := 2) rfl (by decide +kernel) ⟨Nat.le_of_ble_eq_true rfl, Nat.le_of_ble_eq_true rfl⟩ rfl rfl ⟨Nat.zero_le _, Nat.zero_le _⟩ rfl hl.1 rfl (Nat.le_of_ble_eq_true rfl) dX7_push_28 (fun H locs G => ?_)
        refine lv_if_eq (tgt := 44) C.1 C.2.1 dX7_push_31 (by decide) (fun c6 => ?_) (fun c6 => ?_)
        · replace hf := ifp c6 hf
          refine lv_bipush (v := (-4)) C.1 C.2.1 dX7_push_44 (by decide) ?_
          exact r_iret C hr G hf dX7_push_46
        · replace hf := ifq c6 hf
          refine lv_aload_n C.1 C.2.1 dX7_push_34 rfl (lv_at hl 0 rfl) ?_
          refine gE_0_2 C G k_223 dX7_push_35 ?_
          obtain ⟨r7, S7, eS7, hf⟩ := bnd_e hf
          refine r_cali (As := []) (na := 0) C adE G (mX2_count_5 l D a cI cJ tk tf S5 _ eS7) k_292 k_293 k_294 k_62 k_295 (q0 := 5) rfl (ci := 2) rfl (by decide +kernel) ⟨Nat.le_of_ble_eq_true rfl, Nat.le_of_ble_eq_true rfl⟩ rfl rfl ⟨Nat.zero_le _, Nat.zero_le _⟩ rfl hl.1 rfl (Nat.le_of_ble_eq_true rfl) dX7_push_38 (fun H locs G => ?_)
          refine lv_goto (tgt := 46) C.1 C.2.1 dX7_push_41 (by decide) ?_
          exact r_iret C hr G hf dX7_push_46
      · replace hf := ifp c4 hf
        refine lv_bipush (v := (-2)) C.1 C.2.1 dX7_push_19 (by decide) ?_
        exact r_iret C hr G hf dX7_push_21
    · replace hf := ifq c2 hf
      exact rX7_push_0_9 C hr S _ _ _ _ hf G (lv_sub hl [] rfl)
set_option maxRecDepth 100000 in
set_option maxHeartbeats 4000000 in
theorem mX2_takeOff_5 (l : Launch) (D : va_G) (a : Nat → Nat) (cI cJ : ClassId) (tk : Nat) (tf : Nat → Int32) (p1 : Int32) (S : St) (x : Int32 × St) (hf : fX2_takeOff_5 p1 S = some x) : Mv l D (wE a cI cJ) a 25 cI cJ tk tf yX2_takeOff cX2_takeOff 2 { frames := 0, cells := 0, slots := 0, locals := 0 } [.ref (a 5), .int p1] S x := by
  refine opn_v (by decide +kernel) (Nat.le_of_ble_eq_true rfl) (fun p e s m below meth c C hr G ls hl => ?_)
  replace hl : lv_has ls 2 [(0, .ref (a 5)), (1, .int p1)] := hl
  unfold fX2_takeOff_5 at hf
  refine lv_iload_n C.1 C.2.1 dX2_takeOff_0 rfl (lv_at hl 1 rfl) ?_
  refine lv_if_lt (tgt := 22) C.1 C.2.1 dX2_takeOff_1 (by decide) (fun c1 => ?_) (fun c1 => ?_)
  · replace hf := ifp c1 hf
    exact r_vret C hr G hf dX2_takeOff_22
  · replace hf := ifq c1 hf
    refine lv_iload_n C.1 C.2.1 dX2_takeOff_4 rfl (lv_at hl 1 rfl) ?_
    refine lv_aload_n C.1 C.2.1 dX2_takeOff_5 rfl (lv_at hl 0 rfl) ?_
    refine gE_5_2 C G k_112 dX2_takeOff_6 ?_
    refine lv_icmp_gt (tgt := 22) C.1 C.2.1 dX2_takeOff_9 (by decide) (fun c2 => ?_) (fun c2 => ?_)
    · replace hf := ifp c2 hf
      exact r_vret C hr G hf dX2_takeOff_22
    · replace hf := ifq c2 hf
      refine lv_aload_n C.1 C.2.1 dX2_takeOff_12 rfl (lv_at hl 0 rfl) ?_
      refine lv_dup C.1 C.2.1 dX2_takeOff_13 rfl ?_
      refine gE_5_2 C G k_112 dX2_takeOff_14 ?_
      refine lv_iload_n C.1 C.2.1 dX2_takeOff_17 rfl (lv_at hl 1 rfl) ?_
      refine lv_isub C.1 C.2.1 dX2_takeOff_18 ?_
      refine pE_5_2 C G k_112 dX2_takeOff_19 (fun H locs G => ?_)
      obtain ⟨S3, eS3, hf⟩ := stp_e hf
      rw [← eS3] at G
      clear eS3
      exact r_vret C hr G hf dX2_takeOff_22
set_option maxRecDepth 100000 in
set_option maxHeartbeats 4000000 in
theorem mX7_drop_0 (l : Launch) (D : va_G) (a : Nat → Nat) (cI cJ : ClassId) (tk : Nat) (tf : Nat → Int32) (S : St) (x : Int32 × St) (hf : fX7_drop_0 S = some x) : Mi l D (wE a cI cJ) a 25 cI cJ tk tf yX7_drop cX7_drop 2 (some .int) { frames := 1, cells := 0, slots := 0, locals := 21 } [.ref (a 0)] S x := by
  refine opn_i (by decide +kernel) (Nat.le_of_ble_eq_true rfl) (fun p e s m below meth c C hr G ls hl => ?_)
  replace hl : lv_has ls 2 [(0, .ref (a 0))] := hl
  unfold fX7_drop_0 at hf
  refine lv_aload_n C.1 C.2.1 dX7_drop_0 rfl (lv_at hl 0 rfl) ?_
  refine gE_0_2 C G k_223 dX7_drop_1 ?_
  obtain ⟨r1, S1, eS1, hf⟩ := bnd_e hf
  refine r_cali (As := []) (na := 0) C adE G (mX2_count_5 l D a cI cJ tk tf S _ eS1) k_292 k_293 k_294 k_62 k_295 (q0 := 5) rfl (ci := 2) rfl (by decide +kernel) ⟨Nat.le_of_ble_eq_true rfl, Nat.le_of_ble_eq_true rfl⟩ rfl rfl ⟨Nat.zero_le _, Nat.zero_le _⟩ rfl hl.1 rfl (Nat.le_of_ble_eq_true rfl) dX7_drop_4 (fun H locs G => ?_)
  refine lv_istore_n (lv' := [(1, .int r1), (0, .ref (a 0))]) C.1 C.2.1 dX7_drop_7 rfl hl (by decide) rfl (fun ls hl => ?_)
  refine lv_aload_n C.1 C.2.1 dX7_drop_8 rfl (lv_at hl 1 rfl) ?_
  refine gE_0_2 C G k_223 dX7_drop_9 ?_
  refine lv_iload_n C.1 C.2.1 dX7_drop_12 rfl (lv_at hl 0 rfl) ?_
  obtain ⟨r2, S2, eS2, hf⟩ := bnd_e hf
  refine r_calv (As := [.int r1]) (na := 1) C adE G (mX2_takeOff_5 l D a cI cJ tk tf r1 S1 _ eS2) k_300 k_301 k_302 k_62 k_303 (q0 := 5) rfl (ci := 2) rfl (by decide +kernel) ⟨Nat.le_of_ble_eq_true rfl, Nat.le_of_ble_eq_true rfl⟩ rfl rfl ⟨Nat.zero_le _, Nat.zero_le _⟩ rfl hl.1 rfl (Nat.le_of_ble_eq_true rfl) dX7_drop_13 (fun H locs G => ?_)
  refine lv_iload_n C.1 C.2.1 dX7_drop_16 rfl (lv_at hl 0 rfl) ?_
  exact r_iret C hr G hf dX7_drop_17
set_option maxRecDepth 100000 in
set_option maxHeartbeats 4000000 in
theorem mX0_add_13 (l : Launch) (D : va_G) (a : Nat → Nat) (cI cJ : ClassId) (tk : Nat) (tf : Nat → Int32) (p1 : Int32) (p2 : Int32) (S : St) (x : Int32 × St) (hf : fX0_add_13 p1 p2 S = some x) : Mv l D (wE a cI cJ) a 25 cI cJ tk tf yX0_add cX0_add 3 { frames := 0, cells := 0, slots := 0, locals := 0 } [.ref (a 13), .int p1, .int p2] S x := by
  refine opn_v (by decide +kernel) (Nat.le_of_ble_eq_true rfl) (fun p e s m below meth c C hr G ls hl => ?_)
  replace hl : lv_has ls 3 [(0, .ref (a 13)), (1, .int p1), (2, .int p2)] := hl
  unfold fX0_add_13 at hf
  refine lv_aload_n C.1 C.2.1 dX0_add_0 rfl (lv_at hl 0 rfl) ?_
  refine gE_13_6 C G k_174 dX0_add_1 ?_
  refine lv_bipush (v := 30) C.1 C.2.1 dX0_add_4 (by decide) ?_
  refine lv_icmp_lt (tgt := 10) C.1 C.2.1 dX0_add_6 (by decide) (fun c1 => ?_) (fun c1 => ?_)
  · replace hf := ifp c1 hf
    refine lv_aload_n C.1 C.2.1 dX0_add_10 rfl (lv_at hl 0 rfl) ?_
    refine gE_13_0 C G k_168 dX0_add_11 ?_
    refine lv_aload_n C.1 C.2.1 dX0_add_14 rfl (lv_at hl 0 rfl) ?_
    refine gE_13_6 C G k_174 dX0_add_15 ?_
    refine lv_iload_n C.1 C.2.1 dX0_add_18 rfl (lv_at hl 1 rfl) ?_
    obtain ⟨hi2, hf⟩ := ifn hf
    refine sE_14 C G hi2 dX0_add_19 (fun H locs G => ?_)
    obtain ⟨S2, eS2, hf⟩ := stp_e hf
    rw [← eS2] at G
    clear eS2
    refine lv_aload_n C.1 C.2.1 dX0_add_20 rfl (lv_at hl 0 rfl) ?_
    refine gE_13_1 C G k_169 dX0_add_21 ?_
    refine lv_aload_n C.1 C.2.1 dX0_add_24 rfl (lv_at hl 0 rfl) ?_
    refine gE_13_6 C G k_174 dX0_add_25 ?_
    refine lv_iload_n C.1 C.2.1 dX0_add_28 rfl (lv_at hl 2 rfl) ?_
    obtain ⟨hi3, hf⟩ := ifn hf
    refine sE_15 C G hi3 dX0_add_29 (fun H locs G => ?_)
    obtain ⟨S3, eS3, hf⟩ := stp_e hf
    rw [← eS3] at G
    clear eS3
    refine lv_aload_n C.1 C.2.1 dX0_add_30 rfl (lv_at hl 0 rfl) ?_
    refine gE_13_2 C G k_170 dX0_add_31 ?_
    refine lv_aload_n C.1 C.2.1 dX0_add_34 rfl (lv_at hl 0 rfl) ?_
    refine gE_13_6 C G k_174 dX0_add_35 ?_
    refine lv_iconst (v := 0) C.1 C.2.1 dX0_add_38 (by decide) ?_
    obtain ⟨hi4, hf⟩ := ifn hf
    refine sE_16 C G hi4 dX0_add_39 (fun H locs G => ?_)
    obtain ⟨S4, eS4, hf⟩ := stp_e hf
    rw [← eS4] at G
    clear eS4
    refine lv_aload_n C.1 C.2.1 dX0_add_40 rfl (lv_at hl 0 rfl) ?_
    refine lv_dup C.1 C.2.1 dX0_add_41 rfl ?_
    refine gE_13_6 C G k_174 dX0_add_42 ?_
    refine lv_iconst (v := 1) C.1 C.2.1 dX0_add_45 (by decide) ?_
    refine lv_iadd C.1 C.2.1 dX0_add_46 ?_
    refine pE_13_6 C G k_174 dX0_add_47 (fun H locs G => ?_)
    obtain ⟨S5, eS5, hf⟩ := stp_e hf
    rw [← eS5] at G
    clear eS5
    refine lv_aload_n C.1 C.2.1 dX0_add_50 rfl (lv_at hl 0 rfl) ?_
    refine gE_13_6 C G k_174 dX0_add_51 ?_
    refine lv_aload_n C.1 C.2.1 dX0_add_54 rfl (lv_at hl 0 rfl) ?_
    refine gE_13_7 C G k_175 dX0_add_55 ?_
    refine lv_icmp_le (tgt := 69) C.1 C.2.1 dX0_add_58 (by decide) (fun c6 => ?_) (fun c6 => ?_)
    · replace hf := ifp c6 hf
      exact r_vret C hr G hf dX0_add_69
    · replace hf := ifq c6 hf
      refine lv_aload_n C.1 C.2.1 dX0_add_61 rfl (lv_at hl 0 rfl) ?_
      refine lv_aload_n C.1 C.2.1 dX0_add_62 rfl (lv_at hl 0 rfl) ?_
      refine gE_13_6 C G k_174 dX0_add_63 ?_
      refine pE_13_7 C G k_175 dX0_add_66 (fun H locs G => ?_)
      obtain ⟨S7, eS7, hf⟩ := stp_e hf
      rw [← eS7] at G
      clear eS7
      exact r_vret C hr G hf dX0_add_69
  · replace hf := ifq c1 hf
    exact r_vret C hr G hf dX0_add_9
set_option maxRecDepth 100000 in
set_option maxHeartbeats 4000000 in
theorem mX0_startWith_13 (l : Launch) (D : va_G) (a : Nat → Nat) (cI cJ : ClassId) (tk : Nat) (tf : Nat → Int32) (p1 : Int32) (S : St) (x : Int32 × St) (hf : fX0_startWith_13 p1 S = some x) : Mv l D (wE a cI cJ) a 25 cI cJ tk tf yX0_startWith cX0_startWith 2 { frames := 1, cells := 0, slots := 0, locals := 22 } [.ref (a 13), .int p1] S x := by
  refine opn_v (by decide +kernel) (Nat.le_of_ble_eq_true rfl) (fun p e s m below meth c C hr G ls hl => ?_)
  replace hl : lv_has ls 2 [(0, .ref (a 13)), (1, .int p1)] := hl
  unfold fX0_startWith_13 at hf
  refine lv_aload_n C.1 C.2.1 dX0_startWith_0 rfl (lv_at hl 0 rfl) ?_
  refine lv_iconst (v := 0) C.1 C.2.1 dX0_startWith_1 (by decide) ?_
  refine pE_13_6 C G k_174 dX0_startWith_2 (fun H locs G => ?_)
  obtain ⟨S1, eS1, hf⟩ := stp_e hf
  rw [← eS1] at G
  clear eS1
  refine lv_aload_n C.1 C.2.1 dX0_startWith_5 rfl (lv_at hl 0 rfl) ?_
  refine lv_iconst (v := 0) C.1 C.2.1 dX0_startWith_6 (by decide) ?_
  refine pE_13_7 C G k_175 dX0_startWith_7 (fun H locs G => ?_)
  obtain ⟨S2, eS2, hf⟩ := stp_e hf
  rw [← eS2] at G
  clear eS2
  refine lv_aload_n C.1 C.2.1 dX0_startWith_10 rfl (lv_at hl 0 rfl) ?_
  refine lv_iconst (v := 0) C.1 C.2.1 dX0_startWith_11 (by decide) ?_
  refine lv_iload_n C.1 C.2.1 dX0_startWith_12 rfl (lv_at hl 1 rfl) ?_
  obtain ⟨r3, S3, eS3, hf⟩ := bnd_e hf
  refine r_calv (As := [.int (0 : Int32), .int p1]) (na := 2) C adE G (mX0_add_13 l D a cI cJ tk tf (0 : Int32) p1 S2 _ eS3) k_312 k_313 k_314 k_66 k_315 (q0 := 13) rfl (ci := 0) rfl (by decide +kernel) ⟨Nat.le_of_ble_eq_true rfl, Nat.le_of_ble_eq_true rfl⟩ rfl rfl ⟨Nat.zero_le _, Nat.zero_le _⟩ rfl hl.1 rfl (Nat.le_of_ble_eq_true rfl) dX0_startWith_13 (fun H locs G => ?_)
  exact r_vret C hr G hf dX0_startWith_16
set_option maxRecDepth 100000 in
set_option maxHeartbeats 4000000 in
theorem mX0_count_13 (l : Launch) (D : va_G) (a : Nat → Nat) (cI cJ : ClassId) (tk : Nat) (tf : Nat → Int32) (S : St) (x : Int32 × St) (hf : fX0_count_13 S = some x) : Mi l D (wE a cI cJ) a 25 cI cJ tk tf yX0_count cX0_count 1 (some .int) { frames := 0, cells := 0, slots := 0, locals := 0 } [.ref (a 13)] S x := by
  refine opn_i (by decide +kernel) (Nat.le_of_ble_eq_true rfl) (fun p e s m below meth c C hr G ls hl => ?_)
  replace hl : lv_has ls 1 [(0, .ref (a 13))] := hl
  unfold fX0_count_13 at hf
  refine lv_aload_n C.1 C.2.1 dX0_count_0 rfl (lv_at hl 0 rfl) ?_
  refine gE_13_6 C G k_174 dX0_count_1 ?_
  exact r_iret C hr G hf dX0_count_4
set_option maxRecDepth 100000 in
set_option maxHeartbeats 4000000 in
theorem mX0_topSort_13 (l : Launch) (D : va_G) (a : Nat → Nat) (cI cJ : ClassId) (tk : Nat) (tf : Nat → Int32) (S : St) (x : Int32 × St) (hf : fX0_topSort_13 S = some x) : Mi l D (wE a cI cJ) a 25 cI cJ tk tf yX0_topSort cX0_topSort 1 (some .int) { frames := 0, cells := 0, slots := 0, locals := 0 } [.ref (a 13)] S x := by
  refine opn_i (by decide +kernel) (Nat.le_of_ble_eq_true rfl) (fun p e s m below meth c C hr G ls hl => ?_)
  replace hl : lv_has ls 1 [(0, .ref (a 13))] := hl
  unfold fX0_topSort_13 at hf
  refine lv_aload_n C.1 C.2.1 dX0_topSort_0 rfl (lv_at hl 0 rfl) ?_
  refine gE_13_6 C G k_174 dX0_topSort_1 ?_
  refine lv_if_le (tgt := 21) C.1 C.2.1 dX0_topSort_4 (by decide) (fun c1 => ?_) (fun c1 => ?_)
  · replace hf := ifp c1 hf
    refine lv_iconst (v := (-1)) C.1 C.2.1 dX0_topSort_21 (by decide) ?_
    exact r_iret C hr G hf dX0_topSort_22
  · replace hf := ifq c1 hf
    refine lv_aload_n C.1 C.2.1 dX0_topSort_7 rfl (lv_at hl 0 rfl) ?_
    refine gE_13_0 C G k_168 dX0_topSort_8 ?_
    refine lv_aload_n C.1 C.2.1 dX0_topSort_11 rfl (lv_at hl 0 rfl) ?_
    refine gE_13_6 C G k_174 dX0_topSort_12 ?_
    refine lv_iconst (v := 1) C.1 C.2.1 dX0_topSort_15 (by decide) ?_
    refine lv_isub C.1 C.2.1 dX0_topSort_16 ?_
    obtain ⟨hi2, hf⟩ := ifn hf
    refine aE_14 C G hi2 dX0_topSort_17 ?_
    refine lv_goto (tgt := 22) C.1 C.2.1 dX0_topSort_18 (by decide) ?_
    exact r_iret C hr G hf dX0_topSort_22
set_option maxRecDepth 100000 in
set_option maxHeartbeats 4000000 in
theorem mX0_takeTop_13 (l : Launch) (D : va_G) (a : Nat → Nat) (cI cJ : ClassId) (tk : Nat) (tf : Nat → Int32) (S : St) (x : Int32 × St) (hf : fX0_takeTop_13 S = some x) : Mv l D (wE a cI cJ) a 25 cI cJ tk tf yX0_takeTop cX0_takeTop 1 { frames := 0, cells := 0, slots := 0, locals := 0 } [.ref (a 13)] S x := by
  refine opn_v (by decide +kernel) (Nat.le_of_ble_eq_true rfl) (fun p e s m below meth c C hr G ls hl => ?_)
  replace hl : lv_has ls 1 [(0, .ref (a 13))] := hl
  unfold fX0_takeTop_13 at hf
  refine lv_aload_n C.1 C.2.1 dX0_takeTop_0 rfl (lv_at hl 0 rfl) ?_
  refine gE_13_6 C G k_174 dX0_takeTop_1 ?_
  refine lv_if_le (tgt := 17) C.1 C.2.1 dX0_takeTop_4 (by decide) (fun c1 => ?_) (fun c1 => ?_)
  · replace hf := ifp c1 hf
    exact r_vret C hr G hf dX0_takeTop_17
  · replace hf := ifq c1 hf
    refine lv_aload_n C.1 C.2.1 dX0_takeTop_7 rfl (lv_at hl 0 rfl) ?_
    refine lv_dup C.1 C.2.1 dX0_takeTop_8 rfl ?_
    refine gE_13_6 C G k_174 dX0_takeTop_9 ?_
    refine lv_iconst (v := 1) C.1 C.2.1 dX0_takeTop_12 (by decide) ?_
    refine lv_isub C.1 C.2.1 dX0_takeTop_13 ?_
    refine pE_13_6 C G k_174 dX0_takeTop_14 (fun H locs G => ?_)
    obtain ⟨S2, eS2, hf⟩ := stp_e hf
    rw [← eS2] at G
    clear eS2
    exact r_vret C hr G hf dX0_takeTop_17
