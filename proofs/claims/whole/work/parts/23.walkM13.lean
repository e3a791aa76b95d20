theorem dX8_token__0 : decode cX8_token_ 0 = .ok (.aload_n 0, 1) := by decide +kernel
theorem dX8_token__1 : decode cX8_token_ 1 = .ok (.getfield 13, 3) := by decide +kernel
theorem dX8_token__4 : decode cX8_token_ 4 = .ok (.iload_n 1, 1) := by decide +kernel
theorem dX8_token__5 : decode cX8_token_ 5 = .ok (.iaload, 1) := by decide +kernel
theorem dX8_token__6 : decode cX8_token_ 6 = .ok (.istore_n 2, 1) := by decide +kernel
theorem dX8_token__7 : decode cX8_token_ 7 = .ok (.aload_n 0, 1) := by decide +kernel
theorem dX8_token__8 : decode cX8_token_ 8 = .ok (.getfield 7, 3) := by decide +kernel
theorem dX8_token__11 : decode cX8_token_ 11 = .ok (.iload_n 1, 1) := by decide +kernel
theorem dX8_token__12 : decode cX8_token_ 12 = .ok (.iaload, 1) := by decide +kernel
theorem dX8_token__13 : decode cX8_token_ 13 = .ok (.iconst 5, 1) := by decide +kernel
theorem dX8_token__14 : decode cX8_token_ 14 = .ok (.if_icmp .ne 47, 3) := by decide +kernel
theorem dX8_token__17 : decode cX8_token_ 17 = .ok (.aload_n 0, 1) := by decide +kernel
theorem dX8_token__18 : decode cX8_token_ 18 = .ok (.getfield 85, 3) := by decide +kernel
theorem dX8_token__21 : decode cX8_token_ 21 = .ok (.ifCond .eq 8, 3) := by decide +kernel
theorem dX8_token__24 : decode cX8_token_ 24 = .ok (.bipush 11, 2) := by decide +kernel
theorem dX8_token__26 : decode cX8_token_ 26 = .ok (.goto 8, 3) := by decide +kernel
theorem dX8_token__29 : decode cX8_token_ 29 = .ok (.aload_n 0, 1) := by decide +kernel
theorem dX8_token__30 : decode cX8_token_ 30 = .ok (.iload_n 2, 1) := by decide +kernel
theorem dX8_token__31 : decode cX8_token_ 31 = .ok (.invokevirtual 141, 3) := by decide +kernel
theorem dX8_token__34 : decode cX8_token_ 34 = .ok (.istore_n 3, 1) := by decide +kernel
theorem dX8_token__35 : decode cX8_token_ 35 = .ok (.aload_n 0, 1) := by decide +kernel
theorem dX8_token__36 : decode cX8_token_ 36 = .ok (.iconst 0, 1) := by decide +kernel
theorem dX8_token__37 : decode cX8_token_ 37 = .ok (.putfield 85, 3) := by decide +kernel
theorem dX8_token__40 : decode cX8_token_ 40 = .ok (.iload_n 3, 1) := by decide +kernel
theorem dX8_token__41 : decode cX8_token_ 41 = .ok (.ifCond .le 12, 3) := by decide +kernel
theorem dX8_token__44 : decode cX8_token_ 44 = .ok (.aload_n 0, 1) := by decide +kernel
theorem dX8_token__45 : decode cX8_token_ 45 = .ok (.iload_n 3, 1) := by decide +kernel
theorem dX8_token__46 : decode cX8_token_ 46 = .ok (.iload_n 2, 1) := by decide +kernel
theorem dX8_token__47 : decode cX8_token_ 47 = .ok (.invokevirtual 135, 3) := by decide +kernel
theorem dX8_token__50 : decode cX8_token_ 50 = .ok (.goto 8, 3) := by decide +kernel
theorem dX8_token__53 : decode cX8_token_ 53 = .ok (.aload_n 0, 1) := by decide +kernel
theorem dX8_token__54 : decode cX8_token_ 54 = .ok (.iload_n 2, 1) := by decide +kernel
theorem dX8_token__55 : decode cX8_token_ 55 = .ok (.invokevirtual 145, 3) := by decide +kernel
theorem dX8_token__58 : decode cX8_token_ 58 = .ok (.goto 32, 3) := by decide +kernel
theorem dX8_token__61 : decode cX8_token_ 61 = .ok (.aload_n 0, 1) := by decide +kernel
theorem dX8_token__62 : decode cX8_token_ 62 = .ok (.getfield 96, 3) := by decide +kernel
theorem dX8_token__65 : decode cX8_token_ 65 = .ok (.bipush 60, 2) := by decide +kernel
theorem dX8_token__67 : decode cX8_token_ 67 = .ok (.if_icmp .ne 12, 3) := by decide +kernel
theorem dX8_token__70 : decode cX8_token_ 70 = .ok (.aload_n 0, 1) := by decide +kernel
theorem dX8_token__71 : decode cX8_token_ 71 = .ok (.iconst 2, 1) := by decide +kernel
theorem dX8_token__72 : decode cX8_token_ 72 = .ok (.iconst (-1), 1) := by decide +kernel
theorem dX8_token__73 : decode cX8_token_ 73 = .ok (.invokevirtual 135, 3) := by decide +kernel
theorem dX8_token__76 : decode cX8_token_ 76 = .ok (.goto 14, 3) := by decide +kernel
theorem dX8_token__79 : decode cX8_token_ 79 = .ok (.aload_n 0, 1) := by decide +kernel
theorem dX8_token__80 : decode cX8_token_ 80 = .ok (.aload_n 0, 1) := by decide +kernel
theorem dX8_token__81 : decode cX8_token_ 81 = .ok (.getfield 7, 3) := by decide +kernel
theorem dX8_token__84 : decode cX8_token_ 84 = .ok (.iload_n 1, 1) := by decide +kernel
theorem dX8_token__85 : decode cX8_token_ 85 = .ok (.iaload, 1) := by decide +kernel
theorem dX8_token__86 : decode cX8_token_ 86 = .ok (.iload_n 2, 1) := by decide +kernel
theorem dX8_token__87 : decode cX8_token_ 87 = .ok (.invokevirtual 99, 3) := by decide +kernel
theorem dX8_token__90 : decode cX8_token_ 90 = .ok (.return_, 1) := by decide +kernel
theorem dX8_step_0 : decode cX8_step 0 = .ok (.aload_n 0, 1) := by decide +kernel
theorem dX8_step_1 : decode cX8_step 1 = .ok (.getfield 103, 3) := by decide +kernel
theorem dX8_step_4 : decode cX8_step 4 = .ok (.iconst 1, 1) := by decide +kernel
theorem dX8_step_5 : decode cX8_step 5 = .ok (.isub, 1) := by decide +kernel
theorem dX8_step_6 : decode cX8_step 6 = .ok (.istore_n 1, 1) := by decide +kernel
theorem dX8_step_7 : decode cX8_step 7 = .ok (.aload_n 0, 1) := by decide +kernel
theorem dX8_step_8 : decode cX8_step 8 = .ok (.getfield 40, 3) := by decide +kernel
theorem dX8_step_11 : decode cX8_step 11 = .ok (.iload_n 1, 1) := by decide +kernel
theorem dX8_step_12 : decode cX8_step 12 = .ok (.iaload, 1) := by decide +kernel
theorem dX8_step_13 : decode cX8_step 13 = .ok (.lookupswitch 141 #[(0, 35), (4, 90), (5, 128)], 35) := by decide +kernel
theorem dX8_step_48 : decode cX8_step 48 = .ok (.aload_n 0, 1) := by decide +kernel
theorem dX8_step_49 : decode cX8_step 49 = .ok (.invokevirtual 109, 3) := by decide +kernel
theorem dX8_step_52 : decode cX8_step 52 = .ok (.ifCond .eq 16, 3) := by decide +kernel
theorem dX8_step_55 : decode cX8_step 55 = .ok (.aload_n 0, 1) := by decide +kernel
theorem dX8_step_56 : decode cX8_step 56 = .ok (.dup, 1) := by decide +kernel
theorem dX8_step_57 : decode cX8_step 57 = .ok (.getfield 103, 3) := by decide +kernel
theorem dX8_step_60 : decode cX8_step 60 = .ok (.iconst 1, 1) := by decide +kernel
theorem dX8_step_61 : decode cX8_step 61 = .ok (.isub, 1) := by decide +kernel
theorem dX8_step_62 : decode cX8_step 62 = .ok (.putfield 103, 3) := by decide +kernel
theorem dX8_step_65 : decode cX8_step 65 = .ok (.goto 94, 3) := by decide +kernel
theorem dX8_step_68 : decode cX8_step 68 = .ok (.bipush 24, 2) := by decide +kernel
theorem dX8_step_70 : decode cX8_step 70 = .ok (.aload_n 0, 1) := by decide +kernel
theorem dX8_step_71 : decode cX8_step 71 = .ok (.getfield 43, 3) := by decide +kernel
theorem dX8_step_74 : decode cX8_step 74 = .ok (.iload_n 1, 1) := by decide +kernel
theorem dX8_step_75 : decode cX8_step 75 = .ok (.iaload, 1) := by decide +kernel
theorem dX8_step_76 : decode cX8_step 76 = .ok (.imul, 1) := by decide +kernel
theorem dX8_step_77 : decode cX8_step 77 = .ok (.aload_n 0, 1) := by decide +kernel
theorem dX8_step_78 : decode cX8_step 78 = .ok (.getfield 46, 3) := by decide +kernel
theorem dX8_step_81 : decode cX8_step 81 = .ok (.iload_n 1, 1) := by decide +kernel
theorem dX8_step_82 : decode cX8_step 82 = .ok (.iaload, 1) := by decide +kernel
theorem dX8_step_83 : decode cX8_step 83 = .ok (.iadd, 1) := by decide +kernel
theorem dX8_step_84 : decode cX8_step 84 = .ok (.istore_n 2, 1) := by decide +kernel
theorem dX8_step_85 : decode cX8_step 85 = .ok (.aload_n 0, 1) := by decide +kernel
theorem dX8_step_86 : decode cX8_step 86 = .ok (.getfield 46, 3) := by decide +kernel
theorem dX8_step_89 : decode cX8_step 89 = .ok (.iload_n 1, 1) := by decide +kernel
theorem dX8_step_90 : decode cX8_step 90 = .ok (.dup2, 1) := by decide +kernel
theorem dX8_step_91 : decode cX8_step 91 = .ok (.iaload, 1) := by decide +kernel
theorem dX8_step_92 : decode cX8_step 92 = .ok (.iconst 1, 1) := by decide +kernel
theorem dX8_step_93 : decode cX8_step 93 = .ok (.iadd, 1) := by decide +kernel
theorem dX8_step_94 : decode cX8_step 94 = .ok (.iastore, 1) := by decide +kernel
theorem dX8_step_95 : decode cX8_step 95 = .ok (.aload_n 0, 1) := by decide +kernel
theorem dX8_step_96 : decode cX8_step 96 = .ok (.iload_n 2, 1) := by decide +kernel
theorem dX8_step_97 : decode cX8_step 97 = .ok (.invokevirtual 132, 3) := by decide +kernel
theorem dX8_step_100 : decode cX8_step 100 = .ok (.goto 59, 3) := by decide +kernel
theorem dX8_step_103 : decode cX8_step 103 = .ok (.aload_n 0, 1) := by decide +kernel
theorem dX8_step_104 : decode cX8_step 104 = .ok (.dup, 1) := by decide +kernel
theorem dX8_step_105 : decode cX8_step 105 = .ok (.getfield 103, 3) := by decide +kernel
theorem dX8_step_108 : decode cX8_step 108 = .ok (.iconst 1, 1) := by decide +kernel
theorem dX8_step_109 : decode cX8_step 109 = .ok (.isub, 1) := by decide +kernel
theorem dX8_step_110 : decode cX8_step 110 = .ok (.putfield 103, 3) := by decide +kernel
theorem dX8_step_113 : decode cX8_step 113 = .ok (.aload_n 0, 1) := by decide +kernel
theorem dX8_step_114 : decode cX8_step 114 = .ok (.getfield 96, 3) := by decide +kernel
theorem dX8_step_117 : decode cX8_step 117 = .ok (.bipush 60, 2) := by decide +kernel
theorem dX8_step_119 : decode cX8_step 119 = .ok (.if_icmp .ne 13, 3) := by decide +kernel
theorem dX8_step_122 : decode cX8_step 122 = .ok (.aload_n 0, 1) := by decide +kernel
theorem dX8_step_123 : decode cX8_step 123 = .ok (.iconst 2, 1) := by decide +kernel
theorem dX8_step_124 : decode cX8_step 124 = .ok (.bipush (-3), 2) := by decide +kernel
theorem dX8_step_126 : decode cX8_step 126 = .ok (.invokevirtual 135, 3) := by decide +kernel
theorem dX8_step_129 : decode cX8_step 129 = .ok (.goto 30, 3) := by decide +kernel
theorem dX8_step_132 : decode cX8_step 132 = .ok (.aload_n 0, 1) := by decide +kernel
theorem dX8_step_133 : decode cX8_step 133 = .ok (.iconst 1, 1) := by decide +kernel
theorem dX8_step_134 : decode cX8_step 134 = .ok (.iconst 0, 1) := by decide +kernel
theorem dX8_step_135 : decode cX8_step 135 = .ok (.invokevirtual 99, 3) := by decide +kernel
theorem dX8_step_138 : decode cX8_step 138 = .ok (.goto 21, 3) := by decide +kernel
theorem dX8_step_141 : decode cX8_step 141 = .ok (.aload_n 0, 1) := by decide +kernel
theorem dX8_step_142 : decode cX8_step 142 = .ok (.dup, 1) := by decide +kernel
theorem dX8_step_143 : decode cX8_step 143 = .ok (.getfield 103, 3) := by decide +kernel
theorem dX8_step_146 : decode cX8_step 146 = .ok (.iconst 1, 1) := by decide +kernel
theorem dX8_step_147 : decode cX8_step 147 = .ok (.isub, 1) := by decide +kernel
theorem dX8_step_148 : decode cX8_step 148 = .ok (.putfield 103, 3) := by decide +kernel
theorem dX8_step_151 : decode cX8_step 151 = .ok (.goto 8, 3) := by decide +kernel
theorem dX8_step_154 : decode cX8_step 154 = .ok (.aload_n 0, 1) := by decide +kernel
theorem dX8_step_155 : decode cX8_step 155 = .ok (.iload_n 1, 1) := by decide +kernel
theorem dX8_step_156 : decode cX8_step 156 = .ok (.invokevirtual 138, 3) := by decide +kernel
theorem dX8_step_159 : decode cX8_step 159 = .ok (.return_, 1) := by decide +kernel
theorem dX8_run_0 : decode cX8_run 0 = .ok (.aload_n 0, 1) := by decide +kernel
theorem dX8_run_1 : decode cX8_run 1 = .ok (.iconst 0, 1) := by decide +kernel
theorem dX8_run_2 : decode cX8_run 2 = .ok (.putfield 62, 3) := by decide +kernel
theorem dX8_run_5 : decode cX8_run 5 = .ok (.iload_n 1, 1) := by decide +kernel
theorem dX8_run_6 : decode cX8_run 6 = .ok (.iconst 0, 1) := by decide +kernel
theorem dX8_run_7 : decode cX8_run 7 = .ok (.bipush 19, 2) := by decide +kernel
theorem dX8_run_9 : decode cX8_run 9 = .ok (.invokestatic 88, 3) := by decide +kernel
theorem dX8_run_12 : decode cX8_run 12 = .ok (.ifCond .ne 5, 3) := by decide +kernel
theorem dX8_run_15 : decode cX8_run 15 = .ok (.iconst (-1), 1) := by decide +kernel
theorem dX8_run_16 : decode cX8_run 16 = .ok (.ireturn, 1) := by decide +kernel
theorem dX8_run_17 : decode cX8_run 17 = .ok (.iload_n 2, 1) := by decide +kernel
theorem dX8_run_18 : decode cX8_run 18 = .ok (.iconst 1, 1) := by decide +kernel
theorem dX8_run_19 : decode cX8_run 19 = .ok (.sipush 5000, 3) := by decide +kernel
theorem dX8_run_22 : decode cX8_run 22 = .ok (.invokestatic 88, 3) := by decide +kernel
theorem dX8_run_25 : decode cX8_run 25 = .ok (.ifCond .ne 6, 3) := by decide +kernel
theorem dX8_run_28 : decode cX8_run 28 = .ok (.bipush (-2), 2) := by decide +kernel
theorem dX8_run_30 : decode cX8_run 30 = .ok (.ireturn, 1) := by decide +kernel
theorem dX8_run_31 : decode cX8_run 31 = .ok (.aload_n 0, 1) := by decide +kernel
theorem dX8_run_32 : decode cX8_run 32 = .ok (.iconst 0, 1) := by decide +kernel
theorem dX8_run_33 : decode cX8_run 33 = .ok (.putfield 103, 3) := by decide +kernel
theorem dX8_run_36 : decode cX8_run 36 = .ok (.aload_n 0, 1) := by decide +kernel
theorem dX8_run_37 : decode cX8_run 37 = .ok (.iconst 0, 1) := by decide +kernel
theorem dX8_run_38 : decode cX8_run 38 = .ok (.putfield 126, 3) := by decide +kernel
theorem dX8_run_41 : decode cX8_run 41 = .ok (.aload_n 0, 1) := by decide +kernel
theorem dX8_run_42 : decode cX8_run 42 = .ok (.iconst 0, 1) := by decide +kernel
theorem dX8_run_43 : decode cX8_run 43 = .ok (.putfield 106, 3) := by decide +kernel
theorem dX8_run_46 : decode cX8_run 46 = .ok (.aload_n 0, 1) := by decide +kernel
theorem dX8_run_47 : decode cX8_run 47 = .ok (.iconst 0, 1) := by decide +kernel
theorem dX8_run_48 : decode cX8_run 48 = .ok (.putfield 123, 3) := by decide +kernel
theorem dX8_run_51 : decode cX8_run 51 = .ok (.aload_n 0, 1) := by decide +kernel
theorem dX8_run_52 : decode cX8_run 52 = .ok (.iconst 0, 1) := by decide +kernel
theorem dX8_run_53 : decode cX8_run 53 = .ok (.putfield 116, 3) := by decide +kernel
theorem dX8_run_56 : decode cX8_run 56 = .ok (.aload_n 0, 1) := by decide +kernel
theorem dX8_run_57 : decode cX8_run 57 = .ok (.iconst 0, 1) := by decide +kernel
theorem dX8_run_58 : decode cX8_run 58 = .ok (.iload_n 1, 1) := by decide +kernel
theorem dX8_run_59 : decode cX8_run 59 = .ok (.invokevirtual 113, 3) := by decide +kernel
theorem dX8_run_62 : decode cX8_run 62 = .ok (.aload_n 0, 1) := by decide +kernel
theorem dX8_run_63 : decode cX8_run 63 = .ok (.getfield 103, 3) := by decide +kernel
theorem dX8_run_66 : decode cX8_run 66 = .ok (.ifCond .le 42, 3) := by decide +kernel
theorem dX8_run_69 : decode cX8_run 69 = .ok (.aload_n 0, 1) := by decide +kernel
theorem dX8_run_70 : decode cX8_run 70 = .ok (.getfield 126, 3) := by decide +kernel
theorem dX8_run_73 : decode cX8_run 73 = .ok (.iload_n 2, 1) := by decide +kernel
theorem dX8_run_74 : decode cX8_run 74 = .ok (.if_icmp .ne 17, 3) := by decide +kernel
theorem dX8_run_77 : decode cX8_run 77 = .ok (.aload_n 0, 1) := by decide +kernel
theorem dX8_run_78 : decode cX8_run 78 = .ok (.iconst 0, 1) := by decide +kernel
theorem dX8_run_79 : decode cX8_run 79 = .ok (.putfield 103, 3) := by decide +kernel
theorem dX8_run_82 : decode cX8_run 82 = .ok (.aload_n 0, 1) := by decide +kernel
theorem dX8_run_83 : decode cX8_run 83 = .ok (.bipush 10, 2) := by decide +kernel
theorem dX8_run_85 : decode cX8_run 85 = .ok (.putfield 116, 3) := by decide +kernel
theorem dX8_run_88 : decode cX8_run 88 = .ok (.goto (-26), 3) := by decide +kernel
theorem dX8_run_91 : decode cX8_run 91 = .ok (.aload_n 0, 1) := by decide +kernel
theorem dX8_run_92 : decode cX8_run 92 = .ok (.dup, 1) := by decide +kernel
theorem dX8_run_93 : decode cX8_run 93 = .ok (.getfield 126, 3) := by decide +kernel
theorem dX8_run_96 : decode cX8_run 96 = .ok (.iconst 1, 1) := by decide +kernel
theorem dX8_run_97 : decode cX8_run 97 = .ok (.iadd, 1) := by decide +kernel
theorem dX8_run_98 : decode cX8_run 98 = .ok (.putfield 126, 3) := by decide +kernel
theorem dX8_run_101 : decode cX8_run 101 = .ok (.aload_n 0, 1) := by decide +kernel
theorem dX8_run_102 : decode cX8_run 102 = .ok (.invokevirtual 129, 3) := by decide +kernel
theorem dX8_run_105 : decode cX8_run 105 = .ok (.goto (-43), 3) := by decide +kernel
theorem dX8_run_108 : decode cX8_run 108 = .ok (.aload_n 0, 1) := by decide +kernel
theorem dX8_run_109 : decode cX8_run 109 = .ok (.getfield 116, 3) := by decide +kernel
theorem dX8_run_112 : decode cX8_run 112 = .ok (.ireturn, 1) := by decide +kernel
theorem dX8_interrupt_0 : decode cX8_interrupt 0 = .ok (.aload_n 0, 1) := by decide +kernel
theorem dX8_interrupt_1 : decode cX8_interrupt 1 = .ok (.iconst 0, 1) := by decide +kernel
theorem dX8_interrupt_2 : decode cX8_interrupt 2 = .ok (.putfield 62, 3) := by decide +kernel
theorem dX8_interrupt_5 : decode cX8_interrupt 5 = .ok (.aload_n 0, 1) := by decide +kernel
theorem dX8_interrupt_6 : decode cX8_interrupt 6 = .ok (.getfield 85, 3) := by decide +kernel
theorem dX8_interrupt_9 : decode cX8_interrupt 9 = .ok (.istore_n 1, 1) := by decide +kernel
theorem dX8_interrupt_10 : decode cX8_interrupt 10 = .ok (.aload_n 0, 1) := by decide +kernel
theorem dX8_interrupt_11 : decode cX8_interrupt 11 = .ok (.iconst 1, 1) := by decide +kernel
theorem dX8_interrupt_12 : decode cX8_interrupt 12 = .ok (.putfield 85, 3) := by decide +kernel
theorem dX8_interrupt_15 : decode cX8_interrupt 15 = .ok (.iload_n 1, 1) := by decide +kernel
theorem dX8_interrupt_16 : decode cX8_interrupt 16 = .ok (.ifCond .eq 7, 3) := by decide +kernel
theorem dX8_interrupt_19 : decode cX8_interrupt 19 = .ok (.iconst 0, 1) := by decide +kernel
theorem dX8_interrupt_20 : decode cX8_interrupt 20 = .ok (.goto 4, 3) := by decide +kernel
theorem dX8_interrupt_23 : decode cX8_interrupt 23 = .ok (.iconst 1, 1) := by decide +kernel
theorem dX8_interrupt_24 : decode cX8_interrupt 24 = .ok (.ireturn, 1) := by decide +kernel
theorem dX8_size_0 : decode cX8_size 0 = .ok (.aload_n 0, 1) := by decide +kernel
theorem dX8_size_1 : decode cX8_size 1 = .ok (.iconst 0, 1) := by decide +kernel
theorem dX8_size_2 : decode cX8_size 2 = .ok (.putfield 62, 3) := by decide +kernel
theorem dX8_size_5 : decode cX8_size 5 = .ok (.aload_n 0, 1) := by decide +kernel
theorem dX8_size_6 : decode cX8_size 6 = .ok (.getfield 96, 3) := by decide +kernel
theorem dX8_size_9 : decode cX8_size 9 = .ok (.ireturn, 1) := by decide +kernel
theorem dX8_clearAll_0 : decode cX8_clearAll 0 = .ok (.iconst 0, 1) := by decide +kernel
theorem dX8_clearAll_1 : decode cX8_clearAll 1 = .ok (.istore_n 1, 1) := by decide +kernel
theorem dX8_clearAll_2 : decode cX8_clearAll 2 = .ok (.iload_n 1, 1) := by decide +kernel
theorem dX8_clearAll_3 : decode cX8_clearAll 3 = .ok (.bipush 40, 2) := by decide +kernel
theorem dX8_clearAll_5 : decode cX8_clearAll 5 = .ok (.if_icmp .ge 16, 3) := by decide +kernel
theorem dX8_clearAll_8 : decode cX8_clearAll 8 = .ok (.aload_n 0, 1) := by decide +kernel
theorem dX8_clearAll_9 : decode cX8_clearAll 9 = .ok (.getfield 25, 3) := by decide +kernel
theorem dX8_clearAll_12 : decode cX8_clearAll 12 = .ok (.iload_n 1, 1) := by decide +kernel
theorem dX8_clearAll_13 : decode cX8_clearAll 13 = .ok (.iconst (-1), 1) := by decide +kernel
theorem dX8_clearAll_14 : decode cX8_clearAll 14 = .ok (.iastore, 1) := by decide +kernel
theorem dX8_clearAll_15 : decode cX8_clearAll 15 = .ok (.iinc 1 1, 3) := by decide +kernel
theorem dX8_clearAll_18 : decode cX8_clearAll 18 = .ok (.goto (-16), 3) := by decide +kernel
theorem dX8_clearAll_21 : decode cX8_clearAll 21 = .ok (.iconst 0, 1) := by decide +kernel
theorem dX8_clearAll_22 : decode cX8_clearAll 22 = .ok (.istore_n 1, 1) := by decide +kernel
theorem dX8_clearAll_23 : decode cX8_clearAll 23 = .ok (.iload_n 1, 1) := by decide +kernel
theorem dX8_clearAll_24 : decode cX8_clearAll 24 = .ok (.bipush 12, 2) := by decide +kernel
theorem dX8_clearAll_26 : decode cX8_clearAll 26 = .ok (.if_icmp .ge 16, 3) := by decide +kernel
theorem dX8_clearAll_29 : decode cX8_clearAll 29 = .ok (.aload_n 0, 1) := by decide +kernel
theorem dX8_clearAll_30 : decode cX8_clearAll 30 = .ok (.getfield 31, 3) := by decide +kernel
theorem dX8_clearAll_33 : decode cX8_clearAll 33 = .ok (.iload_n 1, 1) := by decide +kernel
theorem dX8_clearAll_34 : decode cX8_clearAll 34 = .ok (.iconst (-1), 1) := by decide +kernel
theorem dX8_clearAll_35 : decode cX8_clearAll 35 = .ok (.iastore, 1) := by decide +kernel
theorem dX8_clearAll_36 : decode cX8_clearAll 36 = .ok (.iinc 1 1, 3) := by decide +kernel
theorem dX8_clearAll_39 : decode cX8_clearAll 39 = .ok (.goto (-16), 3) := by decide +kernel
theorem dX8_clearAll_42 : decode cX8_clearAll 42 = .ok (.aload_n 0, 1) := by decide +kernel
theorem dX8_clearAll_43 : decode cX8_clearAll 43 = .ok (.iconst 0, 1) := by decide +kernel
theorem dX8_clearAll_44 : decode cX8_clearAll 44 = .ok (.putfield 66, 3) := by decide +kernel
theorem dX8_clearAll_47 : decode cX8_clearAll 47 = .ok (.aload_n 0, 1) := by decide +kernel
theorem dX8_clearAll_48 : decode cX8_clearAll 48 = .ok (.iconst (-1), 1) := by decide +kernel
theorem dX8_clearAll_49 : decode cX8_clearAll 49 = .ok (.putfield 69, 3) := by decide +kernel
theorem dX8_clearAll_52 : decode cX8_clearAll 52 = .ok (.aload_n 0, 1) := by decide +kernel
theorem dX8_clearAll_53 : decode cX8_clearAll 53 = .ok (.iconst 0, 1) := by decide +kernel
theorem dX8_clearAll_54 : decode cX8_clearAll 54 = .ok (.putfield 72, 3) := by decide +kernel
theorem dX8_clearAll_57 : decode cX8_clearAll 57 = .ok (.aload_n 0, 1) := by decide +kernel
theorem dX8_clearAll_58 : decode cX8_clearAll 58 = .ok (.iconst 0, 1) := by decide +kernel
theorem dX8_clearAll_59 : decode cX8_clearAll 59 = .ok (.putfield 76, 3) := by decide +kernel
theorem dX8_clearAll_62 : decode cX8_clearAll 62 = .ok (.aload_n 0, 1) := by decide +kernel
theorem dX8_clearAll_63 : decode cX8_clearAll 63 = .ok (.iconst 0, 1) := by decide +kernel
theorem dX8_clearAll_64 : decode cX8_clearAll 64 = .ok (.putfield 79, 3) := by decide +kernel
theorem dX8_clearAll_67 : decode cX8_clearAll 67 = .ok (.aload_n 0, 1) := by decide +kernel
theorem dX8_clearAll_68 : decode cX8_clearAll 68 = .ok (.iconst 0, 1) := by decide +kernel
theorem dX8_clearAll_69 : decode cX8_clearAll 69 = .ok (.putfield 82, 3) := by decide +kernel
theorem dX8_clearAll_72 : decode cX8_clearAll 72 = .ok (.aload_n 0, 1) := by decide +kernel
theorem dX8_clearAll_73 : decode cX8_clearAll 73 = .ok (.iconst 0, 1) := by decide +kernel
theorem dX8_clearAll_74 : decode cX8_clearAll 74 = .ok (.putfield 85, 3) := by decide +kernel
theorem dX8_clearAll_77 : decode cX8_clearAll 77 = .ok (.return_, 1) := by decide +kernel
theorem dX8_forget_0 : decode cX8_forget 0 = .ok (.aload_n 0, 1) := by decide +kernel
theorem dX8_forget_1 : decode cX8_forget 1 = .ok (.iconst 0, 1) := by decide +kernel
theorem dX8_forget_2 : decode cX8_forget 2 = .ok (.putfield 62, 3) := by decide +kernel
theorem dX8_forget_5 : decode cX8_forget 5 = .ok (.iconst 0, 1) := by decide +kernel
theorem dX8_forget_6 : decode cX8_forget 6 = .ok (.istore_n 1, 1) := by decide +kernel
theorem dX8_forget_7 : decode cX8_forget 7 = .ok (.iconst 0, 1) := by decide +kernel
theorem dX8_forget_8 : decode cX8_forget 8 = .ok (.istore_n 2, 1) := by decide +kernel
theorem dX8_forget_9 : decode cX8_forget 9 = .ok (.iload_n 2, 1) := by decide +kernel
theorem dX8_forget_10 : decode cX8_forget 10 = .ok (.bipush 40, 2) := by decide +kernel
theorem dX8_forget_12 : decode cX8_forget 12 = .ok (.if_icmp .ge 27, 3) := by decide +kernel
theorem dX8_forget_15 : decode cX8_forget 15 = .ok (.aload_n 0, 1) := by decide +kernel
theorem dX8_forget_16 : decode cX8_forget 16 = .ok (.getfield 25, 3) := by decide +kernel
theorem dX8_forget_19 : decode cX8_forget 19 = .ok (.iload_n 2, 1) := by decide +kernel
theorem dX8_forget_20 : decode cX8_forget 20 = .ok (.iaload, 1) := by decide +kernel
theorem dX8_forget_21 : decode cX8_forget 21 = .ok (.iconst (-1), 1) := by decide +kernel
theorem dX8_forget_22 : decode cX8_forget 22 = .ok (.if_icmp .ne 7, 3) := by decide +kernel
theorem dX8_forget_25 : decode cX8_forget 25 = .ok (.iload_n 1, 1) := by decide +kernel
theorem dX8_forget_26 : decode cX8_forget 26 = .ok (.goto 6, 3) := by decide +kernel
theorem dX8_forget_29 : decode cX8_forget 29 = .ok (.iload_n 1, 1) := by decide +kernel
theorem dX8_forget_30 : decode cX8_forget 30 = .ok (.iconst 1, 1) := by decide +kernel
theorem dX8_forget_31 : decode cX8_forget 31 = .ok (.iadd, 1) := by decide +kernel
theorem dX8_forget_32 : decode cX8_forget 32 = .ok (.istore_n 1, 1) := by decide +kernel
theorem dX8_forget_33 : decode cX8_forget 33 = .ok (.iinc 2 1, 3) := by decide +kernel
theorem dX8_forget_36 : decode cX8_forget 36 = .ok (.goto (-27), 3) := by decide +kernel
theorem dX8_forget_39 : decode cX8_forget 39 = .ok (.aload_n 0, 1) := by decide +kernel
theorem dX8_forget_40 : decode cX8_forget 40 = .ok (.invokevirtual 59, 3) := by decide +kernel
theorem dX8_forget_43 : decode cX8_forget 43 = .ok (.iload_n 1, 1) := by decide +kernel
theorem dX8_forget_44 : decode cX8_forget 44 = .ok (.ireturn, 1) := by decide +kernel
theorem dX8_value_0 : decode cX8_value 0 = .ok (.aload_n 0, 1) := by decide +kernel
theorem dX8_value_1 : decode cX8_value 1 = .ok (.iload_n 1, 1) := by decide +kernel
theorem dX8_value_2 : decode cX8_value 2 = .ok (.iconst 0, 1) := by decide +kernel
theorem dX8_value_3 : decode cX8_value 3 = .ok (.aload_n 0, 1) := by decide +kernel
theorem dX8_value_4 : decode cX8_value 4 = .ok (.getfield 96, 3) := by decide +kernel
theorem dX8_value_7 : decode cX8_value 7 = .ok (.iconst 1, 1) := by decide +kernel
theorem dX8_value_8 : decode cX8_value 8 = .ok (.isub, 1) := by decide +kernel
theorem dX8_value_9 : decode cX8_value 9 = .ok (.invokestatic 88, 3) := by decide +kernel
theorem dX8_value_12 : decode cX8_value 12 = .ok (.ifCond .eq 16, 3) := by decide +kernel
theorem dX8_value_15 : decode cX8_value 15 = .ok (.iload_n 2, 1) := by decide +kernel
theorem dX8_value_16 : decode cX8_value 16 = .ok (.iconst 0, 1) := by decide +kernel
theorem dX8_value_17 : decode cX8_value 17 = .ok (.iconst 1, 1) := by decide +kernel
theorem dX8_value_18 : decode cX8_value 18 = .ok (.invokestatic 88, 3) := by decide +kernel
theorem dX8_value_21 : decode cX8_value 21 = .ok (.ifCond .eq 7, 3) := by decide +kernel
theorem dX8_value_24 : decode cX8_value 24 = .ok (.iconst 0, 1) := by decide +kernel
theorem dX8_value_25 : decode cX8_value 25 = .ok (.goto 4, 3) := by decide +kernel
theorem dX8_value_28 : decode cX8_value 28 = .ok (.iconst 1, 1) := by decide +kernel
theorem dX8_value_29 : decode cX8_value 29 = .ok (.putfield 62, 3) := by decide +kernel
theorem dX8_value_32 : decode cX8_value 32 = .ok (.aload_n 0, 1) := by decide +kernel
theorem dX8_value_33 : decode cX8_value 33 = .ok (.getfield 62, 3) := by decide +kernel
theorem dX8_value_36 : decode cX8_value 36 = .ok (.ifCond .le 7, 3) := by decide +kernel
theorem dX8_value_39 : decode cX8_value 39 = .ok (.iconst 0, 1) := by decide +kernel
theorem dX8_value_40 : decode cX8_value 40 = .ok (.goto 22, 3) := by decide +kernel
theorem dX8_value_43 : decode cX8_value 43 = .ok (.iload_n 2, 1) := by decide +kernel
theorem dX8_value_44 : decode cX8_value 44 = .ok (.ifCond .ne 12, 3) := by decide +kernel
theorem dX8_value_47 : decode cX8_value 47 = .ok (.aload_n 0, 1) := by decide +kernel
theorem dX8_value_48 : decode cX8_value 48 = .ok (.getfield 19, 3) := by decide +kernel
theorem dX8_value_51 : decode cX8_value 51 = .ok (.iload_n 1, 1) := by decide +kernel
theorem dX8_value_52 : decode cX8_value 52 = .ok (.iaload, 1) := by decide +kernel
theorem dX8_value_53 : decode cX8_value 53 = .ok (.goto 9, 3) := by decide +kernel
theorem dX8_value_56 : decode cX8_value 56 = .ok (.aload_n 0, 1) := by decide +kernel
theorem dX8_value_57 : decode cX8_value 57 = .ok (.getfield 22, 3) := by decide +kernel
theorem dX8_value_60 : decode cX8_value 60 = .ok (.iload_n 1, 1) := by decide +kernel
theorem dX8_value_61 : decode cX8_value 61 = .ok (.iaload, 1) := by decide +kernel
theorem dX8_value_62 : decode cX8_value 62 = .ok (.ireturn, 1) := by decide +kernel
theorem dX8_record_0 : decode cX8_record 0 = .ok (.aload_n 0, 1) := by decide +kernel
theorem dX8_record_1 : decode cX8_record 1 = .ok (.iload_n 1, 1) := by decide +kernel
theorem dX8_record_2 : decode cX8_record 2 = .ok (.iconst 0, 1) := by decide +kernel
theorem dX8_record_3 : decode cX8_record 3 = .ok (.bipush 8, 2) := by decide +kernel
theorem dX8_record_5 : decode cX8_record 5 = .ok (.invokestatic 88, 3) := by decide +kernel
theorem dX8_record_8 : decode cX8_record 8 = .ok (.ifCond .eq 7, 3) := by decide +kernel
theorem dX8_record_11 : decode cX8_record 11 = .ok (.iconst 0, 1) := by decide +kernel
theorem dX8_record_12 : decode cX8_record 12 = .ok (.goto 4, 3) := by decide +kernel
theorem dX8_record_15 : decode cX8_record 15 = .ok (.iconst 1, 1) := by decide +kernel
theorem dX8_record_16 : decode cX8_record 16 = .ok (.putfield 62, 3) := by decide +kernel
theorem dX8_record_19 : decode cX8_record 19 = .ok (.aload_n 0, 1) := by decide +kernel
theorem dX8_record_20 : decode cX8_record 20 = .ok (.getfield 62, 3) := by decide +kernel
theorem dX8_record_23 : decode cX8_record 23 = .ok (.ifCond .le 7, 3) := by decide +kernel
theorem dX8_record_26 : decode cX8_record 26 = .ok (.iconst 0, 1) := by decide +kernel
theorem dX8_record_27 : decode cX8_record 27 = .ok (.goto 47, 3) := by decide +kernel
theorem dX8_record_30 : decode cX8_record 30 = .ok (.iload_n 1, 1) := by decide +kernel
theorem dX8_record_31 : decode cX8_record 31 = .ok (.bipush 6, 2) := by decide +kernel
theorem dX8_record_33 : decode cX8_record 33 = .ok (.if_icmp .ge 11, 3) := by decide +kernel
theorem dX8_record_36 : decode cX8_record 36 = .ok (.aload_n 0, 1) := by decide +kernel
theorem dX8_record_37 : decode cX8_record 37 = .ok (.iload_n 1, 1) := by decide +kernel
theorem dX8_record_38 : decode cX8_record 38 = .ok (.invokevirtual 206, 3) := by decide +kernel
theorem dX8_record_41 : decode cX8_record 41 = .ok (.goto 33, 3) := by decide +kernel
theorem dX8_record_44 : decode cX8_record 44 = .ok (.iload_n 1, 1) := by decide +kernel
theorem dX8_record_45 : decode cX8_record 45 = .ok (.bipush 6, 2) := by decide +kernel
theorem dX8_record_47 : decode cX8_record 47 = .ok (.if_icmp .ne 10, 3) := by decide +kernel
theorem dX8_record_50 : decode cX8_record 50 = .ok (.aload_n 0, 1) := by decide +kernel
theorem dX8_record_51 : decode cX8_record 51 = .ok (.getfield 126, 3) := by decide +kernel
theorem dX8_record_54 : decode cX8_record 54 = .ok (.goto 20, 3) := by decide +kernel
theorem dX8_record_57 : decode cX8_record 57 = .ok (.iload_n 1, 1) := by decide +kernel
theorem dX8_record_58 : decode cX8_record 58 = .ok (.bipush 7, 2) := by decide +kernel
theorem dX8_record_60 : decode cX8_record 60 = .ok (.if_icmp .ne 10, 3) := by decide +kernel
theorem dX8_record_63 : decode cX8_record 63 = .ok (.aload_n 0, 1) := by decide +kernel
theorem dX8_record_64 : decode cX8_record 64 = .ok (.getfield 106, 3) := by decide +kernel
theorem dX8_record_67 : decode cX8_record 67 = .ok (.goto 7, 3) := by decide +kernel
theorem dX8_record_70 : decode cX8_record 70 = .ok (.aload_n 0, 1) := by decide +kernel
theorem dX8_record_71 : decode cX8_record 71 = .ok (.getfield 123, 3) := by decide +kernel
theorem dX8_record_74 : decode cX8_record 74 = .ok (.ireturn, 1) := by decide +kernel
def fX8_token__0_58 (S : St) : Option (Int32 × St) :=
    some (0, S)
def fX8_token__0_34 (q2 : Int32) (z0 : Int32) (S : St) : Option (Int32 × St) :=
    stp (si S 0 18 (0 : Int32)) fun S1 =>
    if z0 ≤ 0 then
      bnd (fX8_work_0 q2 S1) fun _ S3 =>
      fX8_token__0_58 S3
    else
      bnd (fX8_arise_0 z0 q2 S1) fun _ S4 =>
      fX8_token__0_58 S4
def fX8_token__0 (p1 : Int32) (S : St) : Option (Int32 × St) :=
  if vq p1 480 then
  stv (S.1 2 p1.toNatClampNeg) fun y2 =>
  if vq p1 480 then
  if (S.1 1 p1.toNatClampNeg) = (5 : Int32) then
    if (S.1 0 18) = 0 then
      bnd (fX8_wrong_0 y2 S) fun r6 S6 =>
      fX8_token__0_34 y2 r6 S6
    else
      fX8_token__0_34 y2 (11 : Int32) S
  else
    if (S.1 0 6) = (60 : Int32) then
      bnd (fX8_arise_0 (2 : Int32) (-1 : Int32) S) fun _ S8 =>
      some (0, S8)
    else
      if vq p1 480 then
      bnd (fX8_lay_0 (S.1 1 p1.toNatClampNeg) y2 S) fun _ S10 =>
      some (0, S10)
      else none
  else none
  else none
def fX8_step_0 (S : St) : Option (Int32 × St) :=
  stv ((S.1 0 19) - (1 : Int32)) fun y1 =>
  if vq y1 30 then
  if (S.1 11 y1.toNatClampNeg) = 0 then
    bnd (fX8_isSpent_0 S) fun r4 S4 =>
    if r4 = 0 then
      if vq y1 30 then
      if vq y1 30 then
      stv (((24 : Int32) * (S4.1 12 y1.toNatClampNeg)) + (S4.1 13 y1.toNatClampNeg)) fun y8 =>
      if vq y1 30 then
      if vq y1 30 then
      stp (si S4 13 y1.toNatClampNeg ((S4.1 13 y1.toNatClampNeg) + (1 : Int32))) fun S10 =>
      bnd (fX8_token__0 y8 S10) fun _ S11 =>
      some (0, S11)
      else none
      else none
      else none
      else none
    else
      stp (si S4 0 19 ((S4.1 0 19) - (1 : Int32))) fun S12 =>
      some (0, S12)
  else
    if (S.1 11 y1.toNatClampNeg) = 4 then
      stp (si S 0 19 ((S.1 0 19) - (1 : Int32))) fun S14 =>
      if (S14.1 0 6) = (60 : Int32) then
        bnd (fX8_arise_0 (2 : Int32) (-3 : Int32) S14) fun _ S16 =>
        some (0, S16)
      else
        bnd (fX8_lay_0 (1 : Int32) (0 : Int32) S14) fun _ S17 =>
        some (0, S17)
    else
      if (S.1 11 y1.toNatClampNeg) = 5 then
        stp (si S 0 19 ((S.1 0 19) - (1 : Int32))) fun S19 =>
        some (0, S19)
      else
        bnd (fX8_turn_0 y1 S) fun _ S20 =>
        some (0, S20)
  else none
def fX8_run_0_62 : Nat → Int32 → St → Option (Int32 × St)
  | 0, _, _ => none
  | n + 1, q2, S =>
    if (S.1 0 19) ≤ 0 then
      some (S.1 0 29, S)
    else
      if (S.1 0 26) = q2 then
        stp (si S 0 19 (0 : Int32)) fun S3 =>
        stp (si S3 0 29 (10 : Int32)) fun S4 =>
        fX8_run_0_62 n q2 S4
      else
        stp (si S 0 26 ((S.1 0 26) + (1 : Int32))) fun S5 =>
        bnd (fX8_step_0 S5) fun _ S6 =>
        fX8_run_0_62 n q2 S6
def fX8_run_0 (p1 : Int32) (p2 : Int32) (S : St) : Option (Int32 × St) :=
  stp (si S 0 0 (0 : Int32)) fun S1 =>
  bnd (fX8_in p1 (0 : Int32) (19 : Int32) S1) fun r2 S2 =>
  if r2 = 0 then
    some ((-1 : Int32), S2)
  else
    bnd (fX8_in p2 (1 : Int32) (5000 : Int32) S2) fun r4 S4 =>
    if r4 = 0 then
      some ((-2 : Int32), S4)
    else
      stp (si S4 0 19 (0 : Int32)) fun S6 =>
      stp (si S6 0 26 (0 : Int32)) fun S7 =>
      stp (si S7 0 27 (0 : Int32)) fun S8 =>
      stp (si S8 0 28 (0 : Int32)) fun S9 =>
      stp (si S9 0 29 (0 : Int32)) fun S10 =>
      bnd (fX8_come_0 (0 : Int32) p1 S10) fun _ S11 =>
      fX8_run_0_62 6000 p2 S11
def fX8_interrupt_0 (S : St) : Option (Int32 × St) :=
  stp (si S 0 0 (0 : Int32)) fun S1 =>
  stv (S1.1 0 18) fun y2 =>
  stp (si S1 0 18 (1 : Int32)) fun S3 =>
  if y2 = 0 then
    some ((1 : Int32), S3)
  else
    some ((0 : Int32), S3)
def fX8_size_0 (S : St) : Option (Int32 × St) :=
  stp (si S 0 0 (0 : Int32)) fun S1 =>
  some (S1.1 0 6, S1)
def fX8_clearAll_0_23 : Nat → Int32 → St → Option (Int32 × St)
  | 0, _, _ => none
  | n + 1, q1, S =>
    if (12 : Int32) ≤ q1 then
      stp (si S 0 10 (0 : Int32)) fun S2 =>
      stp (si S2 0 11 (-1 : Int32)) fun S3 =>
      stp (si S3 0 12 (0 : Int32)) fun S4 =>
      stp (si S4 0 13 (0 : Int32)) fun S5 =>
      stp (si S5 0 16 (0 : Int32)) fun S6 =>
      stp (si S6 0 17 (0 : Int32)) fun S7 =>
      stp (si S7 0 18 (0 : Int32)) fun S8 =>
      some (0, S8)
    else
      if vq q1 12 then
      stp (si S 8 q1.toNatClampNeg (-1 : Int32)) fun S9 =>
      stv (q1 + 1) fun y10 =>
      fX8_clearAll_0_23 n y10 S9
      else none
def fX8_clearAll_0_2 : Nat → Int32 → St → Option (Int32 × St)
  | 0, _, _ => none
  | n + 1, q1, S =>
    if (40 : Int32) ≤ q1 then
      stv (0 : Int32) fun y2 =>
      fX8_clearAll_0_23 500 y2 S
    else
      if vq q1 40 then
      stp (si S 6 q1.toNatClampNeg (-1 : Int32)) fun S3 =>
      stv (q1 + 1) fun y4 =>
      fX8_clearAll_0_2 n y4 S3
      else none
def fX8_clearAll_0 (S : St) : Option (Int32 × St) :=
  stv (0 : Int32) fun y1 =>
  fX8_clearAll_0_2 500 y1 S
def fX8_forget_0_9 : Nat → Int32 → Int32 → St → Option (Int32 × St)
  | 0, _, _, _ => none
  | n + 1, q1, q2, S =>
    if (40 : Int32) ≤ q2 then
      bnd (fX8_clearAll_0 S) fun _ S2 =>
      some (q1, S2)
    else
      if vq q2 40 then
      if (S.1 6 q2.toNatClampNeg) = (-1 : Int32) then
        stv (q2 + 1) fun y5 =>
        fX8_forget_0_9 n q1 y5 S
      else
        stv (q1 + (1 : Int32)) fun y6 =>
        stv (q2 + 1) fun y7 =>
        fX8_forget_0_9 n y6 y7 S
      else none
def fX8_forget_0 (S : St) : Option (Int32 × St) :=
  stp (si S 0 0 (0 : Int32)) fun S1 =>
  stv (0 : Int32) fun y2 =>
  stv (0 : Int32) fun y3 =>
  fX8_forget_0_9 500 y2 y3 S1
def fX8_value_0_29 (q1 : Int32) (q2 : Int32) (z1 : Int32) (S : St) : Option (Int32 × St) :=
    stp (si S 0 0 z1) fun S1 =>
    if (S1.1 0 0) ≤ 0 then
      if q2 = 0 then
        if vq q1 60 then
        some (S1.1 4 q1.toNatClampNeg, S1)
        else none
      else
        if vq q1 60 then
        some (S1.1 5 q1.toNatClampNeg, S1)
        else none
    else
      some ((0 : Int32), S1)
def fX8_value_0_28 (q1 : Int32) (q2 : Int32) (S : St) : Option (Int32 × St) :=
    fX8_value_0_29 q1 q2 (1 : Int32) S
def fX8_value_0 (p1 : Int32) (p2 : Int32) (S : St) : Option (Int32 × St) :=
  bnd (fX8_in p1 (0 : Int32) ((S.1 0 6) - (1 : Int32)) S) fun r1 S1 =>
  if r1 = 0 then
    fX8_value_0_28 p1 p2 S1
  else
    bnd (fX8_in p2 (0 : Int32) (1 : Int32) S1) fun r3 S3 =>
    if r3 = 0 then
      fX8_value_0_28 p1 p2 S3
    else
      fX8_value_0_29 p1 p2 (0 : Int32) S3
def fX8_record_0_16 (q1 : Int32) (z1 : Int32) (S : St) : Option (Int32 × St) :=
    stp (si S 0 0 z1) fun S1 =>
    if (S1.1 0 0) ≤ 0 then
      if (6 : Int32) ≤ q1 then
        if q1 = (6 : Int32) then
          some (S1.1 0 26, S1)
        else
          if q1 = (7 : Int32) then
            some (S1.1 0 27, S1)
          else
            some (S1.1 0 28, S1)
      else
        bnd (fX8_told_0 q1 S1) fun r6 S6 =>
        some (r6, S6)
    else
      some ((0 : Int32), S1)
def fX8_record_0 (p1 : Int32) (S : St) : Option (Int32 × St) :=
  bnd (fX8_in p1 (0 : Int32) (8 : Int32) S) fun r1 S1 =>
  if r1 = 0 then
    fX8_record_0_16 p1 (1 : Int32) S1
  else
    fX8_record_0_16 p1 (0 : Int32) S1
set_option maxRecDepth 100000 in
set_option maxHeartbeats 4000000 in
theorem rX8_token__0_58 {p : Program} {l : Launch} {e : Env} {s : State} {m : MethodId} {args : Array Value} {below : List Frame} {meth : Method} {c : Code} {D : va_G} {a : Nat → Nat} {cI cJ : ClassId} {tk : Nat} {tf : Nat → Int32} (C : Cx p s m args meth c RX8 cX8_token_ 4 D cI cJ tk tf (AR a 17 s.heap.size)) (hr : meth.sig.returnType = none) : ∀ (S : St) (x : Int32 × St) (H : Heap) (locs : List Loc) (ls : Array Slot), fX8_token__0_58 S = some x → Wd D (wM a cI cJ) (AR a 17 s.heap.size) s S H locs → lv_has ls 4 [] → W p l e { frames := 5, cells := 0, slots := 0, locals := 109 } s m args below meth c H locs 0 0 (MQ below (Qv D (wM a cI cJ) (AR a 17 s.heap.size) x) args s 0 0 (AR a 17 s.heap.size)) (F0 m 58 ls []) := by
  intro S x H locs ls hf G hl
  unfold fX8_token__0_58 at hf
  refine lv_goto (tgt := 90) C.1 C.2.1 dX8_token__58 (by decide) ?_
  exact r_vret C hr G hf dX8_token__90
set_option maxRecDepth 100000 in
set_option maxHeartbeats 4000000 in
theorem rX8_token__0_34 {p : Program} {l : Launch} {e : Env} {s : State} {m : MethodId} {args : Array Value} {below : List Frame} {meth : Method} {c : Code} {D : va_G} {a : Nat → Nat} {cI cJ : ClassId} {tk : Nat} {tf : Nat → Int32} (C : Cx p s m args meth c RX8 cX8_token_ 4 D cI cJ tk tf (AR a 17 s.heap.size)) (hr : meth.sig.returnType = none) : ∀ (q2 : Int32) (z0 : Int32) (S : St) (x : Int32 × St) (H : Heap) (locs : List Loc) (ls : Array Slot), fX8_token__0_34 q2 z0 S = some x → Wd D (wM a cI cJ) (AR a 17 s.heap.size) s S H locs → lv_has ls 4 [(0, .ref (a 0)), (2, .int q2)] → W p l e { frames := 5, cells := 0, slots := 0, locals := 109 } s m args below meth c H locs 0 0 (MQ below (Qv D (wM a cI cJ) (AR a 17 s.heap.size) x) args s 0 0 (AR a 17 s.heap.size)) (F0 m 34 ls [.int z0]) := by
  intro q2 z0 S x H locs ls hf G hl
  unfold fX8_token__0_34 at hf
  refine lv_istore_n (lv' := [(3, .int z0), (0, .ref (a 0)), (2, .int q2)]) C.1 C.2.1 dX8_token__34 rfl hl (by decide) rfl (fun ls hl => ?_)
  refine lv_aload_n C.1 C.2.1 dX8_token__35 rfl (lv_at hl 1 rfl) ?_
  refine lv_iconst (v := 0) C.1 C.2.1 dX8_token__36 (by decide) ?_
  refine pM_0_18 C G (Or.inl rfl) k_776 dX8_token__37 (fun H locs G => ?_)
  obtain ⟨S1, eS1, hf⟩ := stp_e hf
  rw [← eS1] at G
  clear eS1
  refine lv_iload_n C.1 C.2.1 dX8_token__40 rfl (lv_at hl 0 rfl) ?_
  refine lv_if_le (tgt := 53) C.1 C.2.1 dX8_token__41 (by decide) (fun c2 => ?_) (fun c2 => ?_)
  · replace hf := ifp c2 hf
    refine lv_aload_n C.1 C.2.1 dX8_token__53 rfl (lv_at hl 1 rfl) ?_
    refine lv_iload_n C.1 C.2.1 dX8_token__54 rfl (lv_at hl 2 rfl) ?_
    obtain ⟨r3, S3, eS3, hf⟩ := bnd_e hf
    refine r_calv (As := [.int q2]) (na := 1) C adM G (mX8_work_0 l D a cI cJ tk tf q2 S1 _ eS3) k_957 k_959 k_48 k_68 k_960 (q0 := 0) rfl (ci := 8) rfl (by decide +kernel) ⟨Nat.le_of_ble_eq_true rfl, Nat.le_of_ble_eq_true rfl⟩ rfl rfl ⟨Nat.zero_le _, Nat.zero_le _⟩ rfl hl.1 rfl (Nat.le_of_ble_eq_true rfl) dX8_token__55 (fun H locs G => ?_)
    exact rX8_token__0_58 C hr S3 _ _ _ _ hf G (lv_sub hl [] rfl)
  · replace hf := ifq c2 hf
    refine lv_aload_n C.1 C.2.1 dX8_token__44 rfl (lv_at hl 1 rfl) ?_
    refine lv_iload_n C.1 C.2.1 dX8_token__45 rfl (lv_at hl 0 rfl) ?_
    refine lv_iload_n C.1 C.2.1 dX8_token__46 rfl (lv_at hl 2 rfl) ?_
    obtain ⟨r4, S4, eS4, hf⟩ := bnd_e hf
    refine r_calv (As := [.int z0, .int q2]) (na := 2) C adM G (mX8_arise_0 l D a cI cJ tk tf z0 q2 S1 _ eS4) k_949 k_951 k_46 k_68 k_952 (q0 := 0) rfl (ci := 8) rfl (by decide +kernel) ⟨Nat.le_of_ble_eq_true rfl, Nat.le_of_ble_eq_true rfl⟩ rfl rfl ⟨Nat.zero_le _, Nat.zero_le _⟩ rfl hl.1 rfl (Nat.le_of_ble_eq_true rfl) dX8_token__47 (fun H locs G => ?_)
    refine lv_goto (tgt := 58) C.1 C.2.1 dX8_token__50 (by decide) ?_
    exact rX8_token__0_58 C hr S4 _ _ _ _ hf G (lv_sub hl [] rfl)
set_option maxRecDepth 100000 in
set_option maxHeartbeats 4000000 in
theorem mX8_token__0 (l : Launch) (D : va_G) (a : Nat → Nat) (cI cJ : ClassId) (tk : Nat) (tf : Nat → Int32) (p1 : Int32) (S : St) (x : Int32 × St) (hf : fX8_token__0 p1 S = some x) : Mv l D (wM a cI cJ) a 17 cI cJ tk tf yX8_token_ cX8_token_ 4 { frames := 5, cells := 0, slots := 0, locals := 109 } [.ref (a 0), .int p1] S x := by
  refine opn_v (by decide +kernel) (Nat.le_of_ble_eq_true rfl) (fun p e s m below meth c C hr G ls hl => ?_)
  replace hl : lv_has ls 4 [(0, .ref (a 0)), (1, .int p1)] := hl
  unfold fX8_token__0 at hf
  refine lv_aload_n C.1 C.2.1 dX8_token__0 rfl (lv_at hl 0 rfl) ?_
  refine gM_0_2 C G k_760 dX8_token__1 ?_
  refine lv_iload_n C.1 C.2.1 dX8_token__4 rfl (lv_at hl 1 rfl) ?_
  obtain ⟨hi1, hf⟩ := ifn hf
  refine aM_2 C G hi1 dX8_token__5 ?_
  obtain ⟨y2, ey2, hf⟩ := stv_e hf
  refine nm_i ey2 ?_
  refine lv_istore_n (lv' := [(2, .int y2), (0, .ref (a 0)), (1, .int p1)]) C.1 C.2.1 dX8_token__6 rfl hl (by decide) rfl (fun ls hl => ?_)
  refine lv_aload_n C.1 C.2.1 dX8_token__7 rfl (lv_at hl 1 rfl) ?_
  refine gM_0_1 C G k_759 dX8_token__8 ?_
  refine lv_iload_n C.1 C.2.1 dX8_token__11 rfl (lv_at hl 2 rfl) ?_
  obtain ⟨hi3, hf⟩ := ifn hf
  refine aM_1 C G hi3 dX8_token__12 ?_
  refine lv_iconst (v := 5) C.1 C.2.1 dX8_token__13 (by decide) ?_
  refine lv_icmp_ne (tgt := 61) C.1 C.2.1 dX8_token__14 (by decide) (fun c4 => ?_) (fun c4 => ?_)
  · replace hf := ifq c4 hf
    refine lv_aload_n C.1 C.2.1 dX8_token__61 rfl (lv_at hl 1 rfl) ?_
    refine gM_0_6 C G k_764 dX8_token__62 ?_
    refine lv_bipush (v := 60) C.1 C.2.1 dX8_token__65 (by decide) ?_
    refine lv_icmp_ne (tgt := 79) C.1 C.2.1 dX8_token__67 (by decide) (fun c7 => ?_) (fun c7 => ?_)
    · replace hf := ifq c7 hf
      refine lv_aload_n C.1 C.2.1 dX8_token__79 rfl (lv_at hl 1 rfl) ?_
      refine lv_aload_n C.1 C.2.1 dX8_token__80 rfl (lv_at hl 1 rfl) ?_
      refine gM_0_1 C G k_759 dX8_token__81 ?_
      refine lv_iload_n C.1 C.2.1 dX8_token__84 rfl (lv_at hl 2 rfl) ?_
      obtain ⟨hi9, hf⟩ := ifn hf
      refine aM_1 C G hi9 dX8_token__85 ?_
      refine lv_iload_n C.1 C.2.1 dX8_token__86 rfl (lv_at hl 0 rfl) ?_
      obtain ⟨r10, S10, eS10, hf⟩ := bnd_e hf
      refine r_calv (As := [.int (S.1 1 p1.toNatClampNeg), .int y2]) (na := 2) C adM G (mX8_lay_0 l D a cI cJ tk tf (S.1 1 p1.toNatClampNeg) y2 S _ eS10) k_871 k_873 k_31 k_68 k_874 (q0 := 0) rfl (ci := 8) rfl (by decide +kernel) ⟨Nat.le_of_ble_eq_true rfl, Nat.le_of_ble_eq_true rfl⟩ rfl rfl ⟨Nat.zero_le _, Nat.zero_le _⟩ rfl hl.1 rfl (Nat.le_of_ble_eq_true rfl) dX8_token__87 (fun H locs G => ?_)
      exact r_vret C hr G hf dX8_token__90
    · replace hf := ifp c7 hf
      refine lv_aload_n C.1 C.2.1 dX8_token__70 rfl (lv_at hl 1 rfl) ?_
      refine lv_iconst (v := 2) C.1 C.2.1 dX8_token__71 (by decide) ?_
      refine lv_iconst (v := (-1)) C.1 C.2.1 dX8_token__72 (by decide) ?_
      obtain ⟨r8, S8, eS8, hf⟩ := bnd_e hf
      refine r_calv (As := [.int (2 : Int32), .int (-1 : Int32)]) (na := 2) C adM G (mX8_arise_0 l D a cI cJ tk tf (2 : Int32) (-1 : Int32) S _ eS8) k_949 k_951 k_46 k_68 k_952 (q0 := 0) rfl (ci := 8) rfl (by decide +kernel) ⟨Nat.le_of_ble_eq_true rfl, Nat.le_of_ble_eq_true rfl⟩ rfl rfl ⟨Nat.zero_le _, Nat.zero_le _⟩ rfl hl.1 rfl (Nat.le_of_ble_eq_true rfl) dX8_token__73 (fun H locs G => ?_)
      refine lv_goto (tgt := 90) C.1 C.2.1 dX8_token__76 (by decide) ?_
      exact r_vret C hr G hf dX8_token__90
  · replace hf := ifp c4 hf
    refine lv_aload_n C.1 C.2.1 dX8_token__17 rfl (lv_at hl 1 rfl) ?_
    refine gM_0_18 C G k_776 dX8_token__18 ?_
    refine lv_if_eq (tgt := 29) C.1 C.2.1 dX8_token__21 (by decide) (fun c5 => ?_) (fun c5 => ?_)
    · replace hf := ifp c5 hf
      refine lv_aload_n C.1 C.2.1 dX8_token__29 rfl (lv_at hl 1 rfl) ?_
      refine lv_iload_n C.1 C.2.1 dX8_token__30 rfl (lv_at hl 0 rfl) ?_
      obtain ⟨r6, S6, eS6, hf⟩ := bnd_e hf
      refine r_cali (As := [.int y2]) (na := 1) C adM G (mX8_wrong_0 l D a cI cJ tk tf y2 S _ eS6) k_903 k_905 k_36 k_68 k_906 (q0 := 0) rfl (ci := 8) rfl (by decide +kernel) ⟨Nat.le_of_ble_eq_true rfl, Nat.le_of_ble_eq_true rfl⟩ rfl rfl ⟨Nat.zero_le _, Nat.zero_le _⟩ rfl hl.1 rfl (Nat.le_of_ble_eq_true rfl) dX8_token__31 (fun H locs G => ?_)
      exact rX8_token__0_34 C hr y2 r6 S6 _ _ _ _ hf G (lv_sub hl [1, 0] rfl)
    · replace hf := ifq c5 hf
      refine lv_bipush (v := 11) C.1 C.2.1 dX8_token__24 (by decide) ?_
      refine lv_goto (tgt := 34) C.1 C.2.1 dX8_token__26 (by decide) ?_
      exact rX8_token__0_34 C hr y2 (11 : Int32) S _ _ _ _ hf G (lv_sub hl [1, 0] rfl)
set_option maxRecDepth 100000 in
set_option maxHeartbeats 4000000 in
theorem mX8_step_0 (l : Launch) (D : va_G) (a : Nat → Nat) (cI cJ : ClassId) (tk : Nat) (tf : Nat → Int32) (S : St) (x : Int32 × St) (hf : fX8_step_0 S = some x) : Mv l D (wM a cI cJ) a 17 cI cJ tk tf yX8_step cX8_step 3 { frames := 6, cells := 0, slots := 0, locals := 132 } [.ref (a 0)] S x := by
  refine opn_v (by decide +kernel) (Nat.le_of_ble_eq_true rfl) (fun p e s m below meth c C hr G ls hl => ?_)
  replace hl : lv_has ls 3 [(0, .ref (a 0))] := hl
  unfold fX8_step_0 at hf
  refine lv_aload_n C.1 C.2.1 dX8_step_0 rfl (lv_at hl 0 rfl) ?_
  refine gM_0_19 C G k_777 dX8_step_1 ?_
  refine lv_iconst (v := 1) C.1 C.2.1 dX8_step_4 (by decide) ?_
  refine lv_isub C.1 C.2.1 dX8_step_5 ?_
  obtain ⟨y1, ey1, hf⟩ := stv_e hf
  refine nm_i ey1 ?_
  refine lv_istore_n (lv' := [(1, .int y1), (0, .ref (a 0))]) C.1 C.2.1 dX8_step_6 rfl hl (by decide) rfl (fun ls hl => ?_)
  refine lv_aload_n C.1 C.2.1 dX8_step_7 rfl (lv_at hl 1 rfl) ?_
  refine gM_0_20 C G k_778 dX8_step_8 ?_
  refine lv_iload_n C.1 C.2.1 dX8_step_11 rfl (lv_at hl 0 rfl) ?_
  obtain ⟨hi2, hf⟩ := ifn hf
  refine aM_11 C G hi2 dX8_step_12 ?_
  by_cases c3 : S.1 11 y1.toNatClampNeg = (0 : Int32)
  · replace hf := ifp c3 hf
    refine lv_lookup (off := 35) (tgt := 48) C.1 C.2.1 dX8_step_13 (by decide) (by rw [c3]; first | done | rfl) (by decide) ?_
    refine lv_aload_n C.1 C.2.1 dX8_step_48 rfl (lv_at hl 1 rfl) ?_
    obtain ⟨r4, S4, eS4, hf⟩ := bnd_e hf
    refine r_cali (As := []) (na := 0) C adM G (mX8_isSpent_0 l D a cI cJ tk tf S _ eS4) k_895 k_897 k_34 k_68 k_898 (q0 := 0) rfl (ci := 8) rfl (by decide +kernel) ⟨Nat.le_of_ble_eq_true rfl, Nat.le_of_ble_eq_true rfl⟩ rfl rfl ⟨Nat.zero_le _, Nat.zero_le _⟩ rfl hl.1 rfl (Nat.le_of_ble_eq_true rfl) dX8_step_49 (fun H locs G => ?_)
    refine lv_if_eq (tgt := 68) C.1 C.2.1 dX8_step_52 (by decide) (fun c5 => ?_) (fun c5 => ?_)
    · replace hf := ifp c5 hf
      refine lv_bipush (v := 24) C.1 C.2.1 dX8_step_68 (by decide) ?_
      refine lv_aload_n C.1 C.2.1 dX8_step_70 rfl (lv_at hl 1 rfl) ?_
      refine gM_0_21 C G k_779 dX8_step_71 ?_
      refine lv_iload_n C.1 C.2.1 dX8_step_74 rfl (lv_at hl 0 rfl) ?_
      obtain ⟨hi6, hf⟩ := ifn hf
      refine aM_12 C G hi6 dX8_step_75 ?_
      refine lv_imul C.1 C.2.1 dX8_step_76 ?_
      refine lv_aload_n C.1 C.2.1 dX8_step_77 rfl (lv_at hl 1 rfl) ?_
      refine gM_0_22 C G k_780 dX8_step_78 ?_
      refine lv_iload_n C.1 C.2.1 dX8_step_81 rfl (lv_at hl 0 rfl) ?_
      obtain ⟨hi7, hf⟩ := ifn hf
      refine aM_13 C G hi7 dX8_step_82 ?_
      refine lv_iadd C.1 C.2.1 dX8_step_83 ?_
      obtain ⟨y8, ey8, hf⟩ := stv_e hf
      refine nm_i ey8 ?_
      refine lv_istore_n (lv' := [(2, .int y8), (1, .int y1), (0, .ref (a 0))]) C.1 C.2.1 dX8_step_84 rfl hl (by decide) rfl (fun ls hl => ?_)
      refine lv_aload_n C.1 C.2.1 dX8_step_85 rfl (lv_at hl 2 rfl) ?_
      refine gM_0_22 C G k_780 dX8_step_86 ?_
      refine lv_iload_n C.1 C.2.1 dX8_step_89 rfl (lv_at hl 1 rfl) ?_
      refine lv_dup2_11 C.1 C.2.1 dX8_step_90 rfl rfl ?_
      obtain ⟨hi9, hf⟩ := ifn hf
      refine aM_13 C G hi9 dX8_step_91 ?_
      refine lv_iconst (v := 1) C.1 C.2.1 dX8_step_92 (by decide) ?_
      refine lv_iadd C.1 C.2.1 dX8_step_93 ?_
      obtain ⟨hi10, hf⟩ := ifn hf
      refine sM_13 C G hi10 dX8_step_94 (fun H locs G => ?_)
      obtain ⟨S10, eS10, hf⟩ := stp_e hf
      rw [← eS10] at G
      clear eS10
      refine lv_aload_n C.1 C.2.1 dX8_step_95 rfl (lv_at hl 2 rfl) ?_
      refine lv_iload_n C.1 C.2.1 dX8_step_96 rfl (lv_at hl 0 rfl) ?_
      obtain ⟨r11, S11, eS11, hf⟩ := bnd_e hf
      refine r_calv (As := [.int y8]) (na := 1) C adM G (mX8_token__0 l D a cI cJ tk tf y8 S10 _ eS11) k_899 k_901 k_35 k_68 k_902 (q0 := 0) rfl (ci := 8) rfl (by decide +kernel) ⟨Nat.le_of_ble_eq_true rfl, Nat.le_of_ble_eq_true rfl⟩ rfl rfl ⟨Nat.zero_le _, Nat.zero_le _⟩ rfl hl.1 rfl (Nat.le_of_ble_eq_true rfl) dX8_step_97 (fun H locs G => ?_)
      refine lv_goto (tgt := 159) C.1 C.2.1 dX8_step_100 (by decide) ?_
      exact r_vret C hr G hf dX8_step_159
    · replace hf := ifq c5 hf
      refine lv_aload_n C.1 C.2.1 dX8_step_55 rfl (lv_at hl 1 rfl) ?_
      refine lv_dup C.1 C.2.1 dX8_step_56 rfl ?_
      refine gM_0_19 C G k_777 dX8_step_57 ?_
      refine lv_iconst (v := 1) C.1 C.2.1 dX8_step_60 (by decide) ?_
      refine lv_isub C.1 C.2.1 dX8_step_61 ?_
      refine pM_0_19 C G k_777 dX8_step_62 (fun H locs G => ?_)
      obtain ⟨S12, eS12, hf⟩ := stp_e hf
      rw [← eS12] at G
      clear eS12
      refine lv_goto (tgt := 159) C.1 C.2.1 dX8_step_65 (by decide) ?_
      exact r_vret C hr G hf dX8_step_159
  · replace hf := ifq c3 hf
    by_cases c13 : S.1 11 y1.toNatClampNeg = (4 : Int32)
    · replace hf := ifp c13 hf
      refine lv_lookup (off := 90) (tgt := 103) C.1 C.2.1 dX8_step_13 (by decide) (by rw [c13]; first | done | rfl) (by decide) ?_
      refine lv_aload_n C.1 C.2.1 dX8_step_103 rfl (lv_at hl 1 rfl) ?_
      refine lv_dup C.1 C.2.1 dX8_step_104 rfl ?_
      refine gM_0_19 C G k_777 dX8_step_105 ?_
      refine lv_iconst (v := 1) C.1 C.2.1 dX8_step_108 (by decide) ?_
      refine lv_isub C.1 C.2.1 dX8_step_109 ?_
      refine pM_0_19 C G k_777 dX8_step_110 (fun H locs G => ?_)
      obtain ⟨S14, eS14, hf⟩ := stp_e hf
      rw [← eS14] at G
      clear eS14
      refine lv_aload_n C.1 C.2.1 dX8_step_113 rfl (lv_at hl 1 rfl) ?_
      refine gM_0_6 C G k_764 dX8_step_114 ?_
      refine lv_bipush (v := 60) C.1 C.2.1 dX8_step_117 (by decide) ?_
      refine lv_icmp_ne (tgt := 132) C.1 C.2.1 dX8_step_119 (by decide) (fun c15 => ?_) (fun c15 => ?_)
      · replace hf := ifq c15 hf
        refine lv_aload_n C.1 C.2.1 dX8_step_132 rfl (lv_at hl 1 rfl) ?_
        refine lv_iconst (v := 1) C.1 C.2.1 dX8_step_133 (by decide) ?_
        refine lv_iconst (v := 0) C.1 C.2.1 dX8_step_134 (by decide) ?_
        obtain ⟨r17, S17, eS17, hf⟩ := bnd_e hf
        refine r_calv (As := [.int (1 : Int32), .int (0 : Int32)]) (na := 2) C adM G (mX8_lay_0 l D a cI cJ tk tf (1 : Int32) (0 : Int32) S14 _ eS17) k_871 k_873 k_31 k_68 k_874 (q0 := 0) rfl (ci := 8) rfl (by decide +kernel) ⟨Nat.le_of_ble_eq_true rfl, Nat.le_of_ble_eq_true rfl⟩ rfl rfl ⟨Nat.zero_le _, Nat.zero_le _⟩ rfl hl.1 rfl (Nat.le_of_ble_eq_true rfl) dX8_step_135 (fun H locs G => ?_)
        refine lv_goto (tgt := 159) C.1 C.2.1 dX8_step_138 (by decide) ?_
        exact r_vret C hr G hf dX8_step_159
      · replace hf := ifp c15 hf
        refine lv_aload_n C.1 C.2.1 dX8_step_122 rfl (lv_at hl 1 rfl) ?_
        refine lv_iconst (v := 2) C.1 C.2.1 dX8_step_123 (by decide) ?_
        refine lv_bipush (v := (-3)) C.1 C.2.1 dX8_step_124 (by decide) ?_
        obtain ⟨r16, S16, eS16, hf⟩ := bnd_e hf
        refine r_calv (As := [.int (2 : Int32), .int (-3 : Int32)]) (na := 2) C adM G (mX8_arise_0 l D a cI cJ tk tf (2 : Int32) (-3 : Int32) S14 _ eS16) k_949 k_951 k_46 k_68 k_952 (q0 := 0) rfl (ci := 8) rfl (by decide +kernel) ⟨Nat.le_of_ble_eq_true rfl, Nat.le_of_ble_eq_true rfl⟩ rfl rfl ⟨Nat.zero_le _, Nat.zero_le _⟩ rfl hl.1 rfl (Nat.le_of_ble_eq_true rfl) dX8_step_126 (fun H locs G => ?_)
        refine lv_goto (tgt := 159) C.1 C.2.1 dX8_step_129 (by decide) ?_
        exact r_vret C hr G hf dX8_step_159
    · replace hf := ifq c13 hf
      by_cases c18 : S.1 11 y1.toNatClampNeg = (5 : Int32)
      · replace hf := ifp c18 hf
        refine lv_lookup (off := 128) (tgt := 141) C.1 C.2.1 dX8_step_13 (by decide) (by rw [c18]; first | done | rfl) (by decide) ?_
        refine lv_aload_n C.1 C.2.1 dX8_step_141 rfl (lv_at hl 1 rfl) ?_
        refine lv_dup C.1 C.2.1 dX8_step_142 rfl ?_
        refine gM_0_19 C G k_777 dX8_step_143 ?_
        refine lv_iconst (v := 1) C.1 C.2.1 dX8_step_146 (by decide) ?_
        refine lv_isub C.1 C.2.1 dX8_step_147 ?_
        refine pM_0_19 C G k_777 dX8_step_148 (fun H locs G => ?_)
        obtain ⟨S19, eS19, hf⟩ := stp_e hf
        rw [← eS19] at G
        clear eS19
        refine lv_goto (tgt := 159) C.1 C.2.1 dX8_step_151 (by decide) ?_
        exact r_vret C hr G hf dX8_step_159
      · replace hf := ifq c18 hf
        refine lv_lookup (off := 141) (tgt := 154) C.1 C.2.1 dX8_step_13 (by decide) (by rw [lv_osw c3 (show ((0 : Int32)).toInt = 0 from rfl), lv_osw c13 (show ((4 : Int32)).toInt = 4 from rfl), lv_osw c18 (show ((5 : Int32)).toInt = 5 from rfl)]; first | done | rfl) (by decide) ?_
        refine lv_aload_n C.1 C.2.1 dX8_step_154 rfl (lv_at hl 1 rfl) ?_
        refine lv_iload_n C.1 C.2.1 dX8_step_155 rfl (lv_at hl 0 rfl) ?_
        obtain ⟨r20, S20, eS20, hf⟩ := bnd_e hf
        refine r_calv (As := [.int y1]) (na := 1) C adM G (mX8_turn_0 l D a cI cJ tk tf y1 S _ eS20) k_993 k_995 k_57 k_68 k_996 (q0 := 0) rfl (ci := 8) rfl (by decide +kernel) ⟨Nat.le_of_ble_eq_true rfl, Nat.le_of_ble_eq_true rfl⟩ rfl rfl ⟨Nat.zero_le _, Nat.zero_le _⟩ rfl hl.1 rfl (Nat.le_of_ble_eq_true rfl) dX8_step_156 (fun H locs G => ?_)
        exact r_vret C hr G hf dX8_step_159
set_option maxRecDepth 100000 in
set_option maxHeartbeats 4000000 in
theorem rX8_run_0_62 {p : Program} {l : Launch} {e : Env} {s : State} {m : MethodId} {args : Array Value} {below : List Frame} {meth : Method} {c : Code} {D : va_G} {a : Nat → Nat} {cI cJ : ClassId} {tk : Nat} {tf : Nat → Int32} (C : Cx p s m args meth c RX8 cX8_run 3 D cI cJ tk tf (AR a 17 s.heap.size)) (hr : meth.sig.returnType = (some .int)) : ∀ (n : Nat) (q2 : Int32) (S : St) (x : Int32 × St) (H : Heap) (locs : List Loc) (ls : Array Slot), fX8_run_0_62 n q2 S = some x → Wd D (wM a cI cJ) (AR a 17 s.heap.size) s S H locs → lv_has ls 3 [(0, .ref (a 0)), (2, .int q2)] → W p l e { frames := 7, cells := 0, slots := 0, locals := 154 } s m args below meth c H locs 0 0 (MQ below (Qi D (wM a cI cJ) (AR a 17 s.heap.size) x) args s 0 0 (AR a 17 s.heap.size)) (F0 m 62 ls []) := by
  intro n
  induction n with
  | zero => intro q2 S x H locs ls hf G hl; cases hf
  | succ n ih =>
    intro q2 S x H locs ls hf G hl
    rw [fX8_run_0_62.eq_2] at hf
    refine lv_aload_n C.1 C.2.1 dX8_run_62 rfl (lv_at hl 0 rfl) ?_
    refine gM_0_19 C G k_777 dX8_run_63 ?_
    refine lv_if_le (tgt := 108) C.1 C.2.1 dX8_run_66 (by decide) (fun c1 => ?_) (fun c1 => ?_)
    · replace hf := ifp c1 hf
      refine lv_aload_n C.1 C.2.1 dX8_run_108 rfl (lv_at hl 0 rfl) ?_
      refine gM_0_29 C G k_787 dX8_run_109 ?_
      exact r_iret C hr G hf dX8_run_112
    · replace hf := ifq c1 hf
      refine lv_aload_n C.1 C.2.1 dX8_run_69 rfl (lv_at hl 0 rfl) ?_
      refine gM_0_26 C G k_784 dX8_run_70 ?_
      refine lv_iload_n C.1 C.2.1 dX8_run_73 rfl (lv_at hl 1 rfl) ?_
      refine lv_icmp_ne (tgt := 91) C.1 C.2.1 dX8_run_74 (by decide) (fun c2 => ?_) (fun c2 => ?_)
      · replace hf := ifq c2 hf
        refine lv_aload_n C.1 C.2.1 dX8_run_91 rfl (lv_at hl 0 rfl) ?_
        refine lv_dup C.1 C.2.1 dX8_run_92 rfl ?_
        refine gM_0_26 C G k_784 dX8_run_93 ?_
        refine lv_iconst (v := 1) C.1 C.2.1 dX8_run_96 (by decide) ?_
        refine lv_iadd C.1 C.2.1 dX8_run_97 ?_
        refine pM_0_26 C G k_784 dX8_run_98 (fun H locs G => ?_)
        obtain ⟨S5, eS5, hf⟩ := stp_e hf
        rw [← eS5] at G
        clear eS5
        refine lv_aload_n C.1 C.2.1 dX8_run_101 rfl (lv_at hl 0 rfl) ?_
        obtain ⟨r6, S6, eS6, hf⟩ := bnd_e hf
        refine r_calv (As := []) (na := 0) C adM G (mX8_step_0 l D a cI cJ tk tf S5 _ eS6) k_891 k_893 k_33 k_68 k_894 (q0 := 0) rfl (ci := 8) rfl (by decide +kernel) ⟨Nat.le_of_ble_eq_true rfl, Nat.le_of_ble_eq_true rfl⟩ rfl rfl ⟨Nat.zero_le _, Nat.zero_le _⟩ rfl hl.1 rfl (Nat.le_of_ble_eq_true rfl) dX8_run_102 (fun H locs G => ?_)
        refine lv_goto (tgt := 62) C.1 C.2.1 dX8_run_105 (by decide) ?_
        exact ih q2 S6 _ _ _ _ hf G (lv_sub hl [0, 1] rfl)
      · replace hf := ifp c2 hf
        refine lv_aload_n C.1 C.2.1 dX8_run_77 rfl (lv_at hl 0 rfl) ?_
        refine lv_iconst (v := 0) C.1 C.2.1 dX8_run_78 (by decide) ?_
        refine pM_0_19 C G k_777 dX8_run_79 (fun H locs G => ?_)
        obtain ⟨S3, eS3, hf⟩ := stp_e hf
        rw [← eS3] at G
        clear eS3
        refine lv_aload_n C.1 C.2.1 dX8_run_82 rfl (lv_at hl 0 rfl) ?_
        refine lv_bipush (v := 10) C.1 C.2.1 dX8_run_83 (by decide) ?_
        refine pM_0_29 C G k_787 dX8_run_85 (fun H locs G => ?_)
        obtain ⟨S4, eS4, hf⟩ := stp_e hf
        rw [← eS4] at G
        clear eS4
        refine lv_goto (tgt := 62) C.1 C.2.1 dX8_run_88 (by decide) ?_
        exact ih q2 S4 _ _ _ _ hf G (lv_sub hl [0, 1] rfl)
set_option maxRecDepth 100000 in
set_option maxHeartbeats 4000000 in
theorem mX8_run_0 (l : Launch) (D : va_G) (a : Nat → Nat) (cI cJ : ClassId) (tk : Nat) (tf : Nat → Int32) (p1 : Int32) (p2 : Int32) (S : St) (x : Int32 × St) (hf : fX8_run_0 p1 p2 S = some x) : Mi l D (wM a cI cJ) a 17 cI cJ tk tf yX8_run cX8_run 3 (some .int) { frames := 7, cells := 0, slots := 0, locals := 154 } [.ref (a 0), .int p1, .int p2] S x := by
  refine opn_i (by decide +kernel) (Nat.le_of_ble_eq_true rfl) (fun p e s m below meth c C hr G ls hl => ?_)
  replace hl : lv_has ls 3 [(0, .ref (a 0)), (1, .int p1), (2, .int p2)] := hl
  unfold fX8_run_0 at hf
  refine lv_aload_n C.1 C.2.1 dX8_run_0 rfl (lv_at hl 0 rfl) ?_
  refine lv_iconst (v := 0) C.1 C.2.1 dX8_run_1 (by decide) ?_
  refine pM_0_0 C G k_758 dX8_run_2 (fun H locs G => ?_)
  obtain ⟨S1, eS1, hf⟩ := stp_e hf
  rw [← eS1] at G
  clear eS1
  refine lv_iload_n C.1 C.2.1 dX8_run_5 rfl (lv_at hl 1 rfl) ?_
  refine lv_iconst (v := 0) C.1 C.2.1 dX8_run_6 (by decide) ?_
  refine lv_bipush (v := 19) C.1 C.2.1 dX8_run_7 (by decide) ?_
  obtain ⟨r2, S2, eS2, hf⟩ := bnd_e hf
  refine r_cals (As := [.int p1, .int (0 : Int32), .int (19 : Int32)]) (na := 3) C adM G (mX8_in l D a cI cJ tk tf p1 (0 : Int32) (19 : Int32) S1 _ eS2) k_857 k_858 k_68 k_859 (by decide +kernel) ⟨Nat.le_of_ble_eq_true rfl, Nat.le_of_ble_eq_true rfl⟩ rfl rfl ⟨Nat.zero_le _, Nat.zero_le _⟩ rfl hl.1 rfl (Nat.le_of_ble_eq_true rfl) dX8_run_9 (fun H locs G => ?_)
  refine lv_if_ne (tgt := 17) C.1 C.2.1 dX8_run_12 (by decide) (fun c3 => ?_) (fun c3 => ?_)
  · replace hf := ifq c3 hf
    refine lv_iload_n C.1 C.2.1 dX8_run_17 rfl (lv_at hl 2 rfl) ?_
    refine lv_iconst (v := 1) C.1 C.2.1 dX8_run_18 (by decide) ?_
    refine lv_sipush (v := 5000) C.1 C.2.1 dX8_run_19 (by decide) ?_
    obtain ⟨r4, S4, eS4, hf⟩ := bnd_e hf
    refine r_cals (As := [.int p2, .int (1 : Int32), .int (5000 : Int32)]) (na := 3) C adM G (mX8_in l D a cI cJ tk tf p2 (1 : Int32) (5000 : Int32) S2 _ eS4) k_857 k_858 k_68 k_859 (by decide +kernel) ⟨Nat.le_of_ble_eq_true rfl, Nat.le_of_ble_eq_true rfl⟩ rfl rfl ⟨Nat.zero_le _, Nat.zero_le _⟩ rfl hl.1 rfl (Nat.le_of_ble_eq_true rfl) dX8_run_22 (fun H locs G => ?_)
    refine lv_if_ne (tgt := 31) C.1 C.2.1 dX8_run_25 (by decide) (fun c5 => ?_) (fun c5 => ?_)
    · replace hf := ifq c5 hf
      refine lv_aload_n C.1 C.2.1 dX8_run_31 rfl (lv_at hl 0 rfl) ?_
      refine lv_iconst (v := 0) C.1 C.2.1 dX8_run_32 (by decide) ?_
      refine pM_0_19 C G k_777 dX8_run_33 (fun H locs G => ?_)
      obtain ⟨S6, eS6, hf⟩ := stp_e hf
      rw [← eS6] at G
      clear eS6
      refine lv_aload_n C.1 C.2.1 dX8_run_36 rfl (lv_at hl 0 rfl) ?_
      refine lv_iconst (v := 0) C.1 C.2.1 dX8_run_37 (by decide) ?_
      refine pM_0_26 C G k_784 dX8_run_38 (fun H locs G => ?_)
      obtain ⟨S7, eS7, hf⟩ := stp_e hf
      rw [← eS7] at G
      clear eS7
      refine lv_aload_n C.1 C.2.1 dX8_run_41 rfl (lv_at hl 0 rfl) ?_
      refine lv_iconst (v := 0) C.1 C.2.1 dX8_run_42 (by decide) ?_
      refine pM_0_27 C G k_785 dX8_run_43 (fun H locs G => ?_)
      obtain ⟨S8, eS8, hf⟩ := stp_e hf
      rw [← eS8] at G
      clear eS8
      refine lv_aload_n C.1 C.2.1 dX8_run_46 rfl (lv_at hl 0 rfl) ?_
      refine lv_iconst (v := 0) C.1 C.2.1 dX8_run_47 (by decide) ?_
      refine pM_0_28 C G k_786 dX8_run_48 (fun H locs G => ?_)
      obtain ⟨S9, eS9, hf⟩ := stp_e hf
      rw [← eS9] at G
      clear eS9
      refine lv_aload_n C.1 C.2.1 dX8_run_51 rfl (lv_at hl 0 rfl) ?_
      refine lv_iconst (v := 0) C.1 C.2.1 dX8_run_52 (by decide) ?_
      refine pM_0_29 C G k_787 dX8_run_53 (fun H locs G => ?_)
      obtain ⟨S10, eS10, hf⟩ := stp_e hf
      rw [← eS10] at G
      clear eS10
      refine lv_aload_n C.1 C.2.1 dX8_run_56 rfl (lv_at hl 0 rfl) ?_
      refine lv_iconst (v := 0) C.1 C.2.1 dX8_run_57 (by decide) ?_
      refine lv_iload_n C.1 C.2.1 dX8_run_58 rfl (lv_at hl 1 rfl) ?_
      obtain ⟨r11, S11, eS11, hf⟩ := bnd_e hf
      refine r_calv (As := [.int (0 : Int32), .int p1]) (na := 2) C adM G (mX8_come_0 l D a cI cJ tk tf (0 : Int32) p1 S10 _ eS11) k_887 k_889 k_32 k_68 k_890 (q0 := 0) rfl (ci := 8) rfl (by decide +kernel) ⟨Nat.le_of_ble_eq_true rfl, Nat.le_of_ble_eq_true rfl⟩ rfl rfl ⟨Nat.zero_le _, Nat.zero_le _⟩ rfl hl.1 rfl (Nat.le_of_ble_eq_true rfl) dX8_run_59 (fun H locs G => ?_)
      exact rX8_run_0_62 C hr 6000 p2 S11 _ _ _ _ hf G (lv_sub hl [0, 2] rfl)
    · replace hf := ifp c5 hf
      refine lv_bipush (v := (-2)) C.1 C.2.1 dX8_run_28 (by decide) ?_
      exact r_iret C hr G hf dX8_run_30
  · replace hf := ifp c3 hf
    refine lv_iconst (v := (-1)) C.1 C.2.1 dX8_run_15 (by decide) ?_
    exact r_iret C hr G hf dX8_run_16
set_option maxRecDepth 100000 in
set_option maxHeartbeats 4000000 in
theorem mX8_interrupt_0 (l : Launch) (D : va_G) (a : Nat → Nat) (cI cJ : ClassId) (tk : Nat) (tf : Nat → Int32) (S : St) (x : Int32 × St) (hf : fX8_interrupt_0 S = some x) : Mi l D (wM a cI cJ) a 17 cI cJ tk tf yX8_interrupt cX8_interrupt 2 (some .int) { frames := 0, cells := 0, slots := 0, locals := 0 } [.ref (a 0)] S x := by
  refine opn_i (by decide +kernel) (Nat.le_of_ble_eq_true rfl) (fun p e s m below meth c C hr G ls hl => ?_)
  replace hl : lv_has ls 2 [(0, .ref (a 0))] := hl
  unfold fX8_interrupt_0 at hf
  refine lv_aload_n C.1 C.2.1 dX8_interrupt_0 rfl (lv_at hl 0 rfl) ?_
  refine lv_iconst (v := 0) C.1 C.2.1 dX8_interrupt_1 (by decide) ?_
  refine pM_0_0 C G k_758 dX8_interrupt_2 (fun H locs G => ?_)
  obtain ⟨S1, eS1, hf⟩ := stp_e hf
  rw [← eS1] at G
  clear eS1
  refine lv_aload_n C.1 C.2.1 dX8_interrupt_5 rfl (lv_at hl 0 rfl) ?_
  refine gM_0_18 C G k_776 dX8_interrupt_6 ?_
  obtain ⟨y2, ey2, hf⟩ := stv_e hf
  refine nm_i ey2 ?_
  refine lv_istore_n (lv' := [(1, .int y2), (0, .ref (a 0))]) C.1 C.2.1 dX8_interrupt_9 rfl hl (by decide) rfl (fun ls hl => ?_)
  refine lv_aload_n C.1 C.2.1 dX8_interrupt_10 rfl (lv_at hl 1 rfl) ?_
  refine lv_iconst (v := 1) C.1 C.2.1 dX8_interrupt_11 (by decide) ?_
  refine pM_0_18 C G (Or.inr rfl) k_776 dX8_interrupt_12 (fun H locs G => ?_)
  obtain ⟨S3, eS3, hf⟩ := stp_e hf
  rw [← eS3] at G
  clear eS3
  refine lv_iload_n C.1 C.2.1 dX8_interrupt_15 rfl (lv_at hl 0 rfl) ?_
  refine lv_if_eq (tgt := 23) C.1 C.2.1 dX8_interrupt_16 (by decide) (fun c4 => ?_) (fun c4 => ?_)
  · replace hf := ifp c4 hf
    refine lv_iconst (v := 1) C.1 C.2.1 dX8_interrupt_23 (by decide) ?_
    exact r_iret C hr G hf dX8_interrupt_24
  · replace hf := ifq c4 hf
    refine lv_iconst (v := 0) C.1 C.2.1 dX8_interrupt_19 (by decide) ?_
    refine lv_goto (tgt := 24) C.1 C.2.1 dX8_interrupt_20 (by decide) ?_
    exact r_iret C hr G hf dX8_interrupt_24
set_option maxRecDepth 100000 in
set_option maxHeartbeats 4000000 in
theorem mX8_size_0 (l : Launch) (D : va_G) (a : Nat → Nat) (cI cJ : ClassId) (tk : Nat) (tf : Nat → Int32) (S : St) (x : Int32 × St) (hf : fX8_size_0 S = some x) : Mi l D (wM a cI cJ) a 17 cI cJ tk tf yX8_size cX8_size 1 (some .int) { frames := 0, cells := 0, slots := 0, locals := 0 } [.ref (a 0)] S x := by
  refine opn_i (by decide +kernel) (Nat.le_of_ble_eq_true rfl) (fun p e s m below meth c C hr G ls hl => ?_)
  replace hl : lv_has ls 1 [(0, .ref (a 0))] := hl
  unfold fX8_size_0 at hf
  refine lv_aload_n C.1 C.2.1 dX8_size_0 rfl (lv_at hl 0 rfl) ?_
  refine lv_iconst (v := 0) C.1 C.2.1 dX8_size_1 (by decide) ?_
  refine pM_0_0 C G k_758 dX8_size_2 (fun H locs G => ?_)
  obtain ⟨S1, eS1, hf⟩ := stp_e hf
  rw [← eS1] at G
  clear eS1
  refine lv_aload_n C.1 C.2.1 dX8_size_5 rfl (lv_at hl 0 rfl) ?_
  refine gM_0_6 C G k_764 dX8_size_6 ?_
  exact r_iret C hr G hf dX8_size_9
set_option maxRecDepth 100000 in
set_option maxHeartbeats 4000000 in
theorem rX8_clearAll_0_23 {p : Program} {l : Launch} {e : Env} {s : State} {m : MethodId} {args : Array Value} {below : List Frame} {meth : Method} {c : Code} {D : va_G} {a : Nat → Nat} {cI cJ : ClassId} {tk : Nat} {tf : Nat → Int32} (C : Cx p s m args meth c RX8 cX8_clearAll 2 D cI cJ tk tf (AR a 17 s.heap.size)) (hr : meth.sig.returnType = none) : ∀ (n : Nat) (q1 : Int32) (S : St) (x : Int32 × St) (H : Heap) (locs : List Loc) (ls : Array Slot), fX8_clearAll_0_23 n q1 S = some x → Wd D (wM a cI cJ) (AR a 17 s.heap.size) s S H locs → lv_has ls 2 [(0, .ref (a 0)), (1, .int q1)] → W p l e { frames := 0, cells := 0, slots := 0, locals := 0 } s m args below meth c H locs 0 0 (MQ below (Qv D (wM a cI cJ) (AR a 17 s.heap.size) x) args s 0 0 (AR a 17 s.heap.size)) (F0 m 23 ls []) := by
  intro n
  induction n with
  | zero => intro q1 S x H locs ls hf G hl; cases hf
  | succ n ih =>
    intro q1 S x H locs ls hf G hl
    rw [fX8_clearAll_0_23.eq_2] at hf
    refine lv_iload_n C.1 C.2.1 dX8_clearAll_23 rfl (lv_at hl 1 rfl) ?_
    refine lv_bipush (v := 12) C.1 C.2.1 dX8_clearAll_24 (by decide) ?_
    refine lv_icmp_ge (tgt := 42) C.1 C.2.1 dX8_clearAll_26 (by decide) (fun c1 => ?_) (fun c1 => ?_)
    · replace hf := ifp c1 hf
      refine lv_aload_n C.1 C.2.1 dX8_clearAll_42 rfl (lv_at hl 0 rfl) ?_
      refine lv_iconst (v := 0) C.1 C.2.1 dX8_clearAll_43 (by decide) ?_
      refine pM_0_10 C G k_768 dX8_clearAll_44 (fun H locs G => ?_)
      obtain ⟨S2, eS2, hf⟩ := stp_e hf
      rw [← eS2] at G
      clear eS2
      refine lv_aload_n C.1 C.2.1 dX8_clearAll_47 rfl (lv_at hl 0 rfl) ?_
      refine lv_iconst (v := (-1)) C.1 C.2.1 dX8_clearAll_48 (by decide) ?_
      refine pM_0_11 C G k_769 dX8_clearAll_49 (fun H locs G => ?_)
      obtain ⟨S3, eS3, hf⟩ := stp_e hf
      rw [← eS3] at G
      clear eS3
      refine lv_aload_n C.1 C.2.1 dX8_clearAll_52 rfl (lv_at hl 0 rfl) ?_
      refine lv_iconst (v := 0) C.1 C.2.1 dX8_clearAll_53 (by decide) ?_
      refine pM_0_12 C G (Or.inl rfl) k_770 dX8_clearAll_54 (fun H locs G => ?_)
      obtain ⟨S4, eS4, hf⟩ := stp_e hf
      rw [← eS4] at G
      clear eS4
      refine lv_aload_n C.1 C.2.1 dX8_clearAll_57 rfl (lv_at hl 0 rfl) ?_
      refine lv_iconst (v := 0) C.1 C.2.1 dX8_clearAll_58 (by decide) ?_
      refine pM_0_13 C G k_771 dX8_clearAll_59 (fun H locs G => ?_)
      obtain ⟨S5, eS5, hf⟩ := stp_e hf
      rw [← eS5] at G
      clear eS5
      refine lv_aload_n C.1 C.2.1 dX8_clearAll_62 rfl (lv_at hl 0 rfl) ?_
      refine lv_iconst (v := 0) C.1 C.2.1 dX8_clearAll_63 (by decide) ?_
      refine pM_0_16 C G k_774 dX8_clearAll_64 (fun H locs G => ?_)
      obtain ⟨S6, eS6, hf⟩ := stp_e hf
      rw [← eS6] at G
      clear eS6
      refine lv_aload_n C.1 C.2.1 dX8_clearAll_67 rfl (lv_at hl 0 rfl) ?_
      refine lv_iconst (v := 0) C.1 C.2.1 dX8_clearAll_68 (by decide) ?_
      refine pM_0_17 C G k_775 dX8_clearAll_69 (fun H locs G => ?_)
      obtain ⟨S7, eS7, hf⟩ := stp_e hf
      rw [← eS7] at G
      clear eS7
      refine lv_aload_n C.1 C.2.1 dX8_clearAll_72 rfl (lv_at hl 0 rfl) ?_
      refine lv_iconst (v := 0) C.1 C.2.1 dX8_clearAll_73 (by decide) ?_
      refine pM_0_18 C G (Or.inl rfl) k_776 dX8_clearAll_74 (fun H locs G => ?_)
      obtain ⟨S8, eS8, hf⟩ := stp_e hf
      rw [← eS8] at G
      clear eS8
      exact r_vret C hr G hf dX8_clearAll_77
    · replace hf := ifq c1 hf
      refine lv_aload_n C.1 C.2.1 dX8_clearAll_29 rfl (lv_at hl 0 rfl) ?_
      refine gM_0_9 C G k_767 dX8_clearAll_30 ?_
      refine lv_iload_n C.1 C.2.1 dX8_clearAll_33 rfl (lv_at hl 1 rfl) ?_
      refine lv_iconst (v := (-1)) C.1 C.2.1 dX8_clearAll_34 (by decide) ?_
      obtain ⟨hi9, hf⟩ := ifn hf
      refine sM_8 C G hi9 dX8_clearAll_35 (fun H locs G => ?_)
      obtain ⟨S9, eS9, hf⟩ := stp_e hf
      rw [← eS9] at G
      clear eS9
      obtain ⟨y10, ey10, hf⟩ := stv_e hf
      refine lv_iinc (v := y10) (lv' := [(1, .int y10), (0, .ref (a 0))]) C.1 C.2.1 dX8_clearAll_36 hl (k := 1) rfl (by rw [ey10]; rfl) (by decide) rfl (fun ls hl => ?_)
      refine lv_goto (tgt := 23) C.1 C.2.1 dX8_clearAll_39 (by decide) ?_
      exact ih y10 S9 _ _ _ _ hf G (lv_sub hl [1, 0] rfl)
set_option maxRecDepth 100000 in
set_option maxHeartbeats 4000000 in
theorem rX8_clearAll_0_2 {p : Program} {l : Launch} {e : Env} {s : State} {m : MethodId} {args : Array Value} {below : List Frame} {meth : Method} {c : Code} {D : va_G} {a : Nat → Nat} {cI cJ : ClassId} {tk : Nat} {tf : Nat → Int32} (C : Cx p s m args meth c RX8 cX8_clearAll 2 D cI cJ tk tf (AR a 17 s.heap.size)) (hr : meth.sig.returnType = none) : ∀ (n : Nat) (q1 : Int32) (S : St) (x : Int32 × St) (H : Heap) (locs : List Loc) (ls : Array Slot), fX8_clearAll_0_2 n q1 S = some x → Wd D (wM a cI cJ) (AR a 17 s.heap.size) s S H locs → lv_has ls 2 [(0, .ref (a 0)), (1, .int q1)] → W p l e { frames := 0, cells := 0, slots := 0, locals := 0 } s m args below meth c H locs 0 0 (MQ below (Qv D (wM a cI cJ) (AR a 17 s.heap.size) x) args s 0 0 (AR a 17 s.heap.size)) (F0 m 2 ls []) := by
  intro n
  induction n with
  | zero => intro q1 S x H locs ls hf G hl; cases hf
  | succ n ih =>
    intro q1 S x H locs ls hf G hl
    rw [fX8_clearAll_0_2.eq_2] at hf
    refine lv_iload_n C.1 C.2.1 dX8_clearAll_2 rfl (lv_at hl 1 rfl) ?_
    refine lv_bipush (v := 40) C.1 C.2.1 dX8_clearAll_3 (by decide) ?_
    refine lv_icmp_ge (tgt := 21) C.1 C.2.1 dX8_clearAll_5 (by decide) (fun c1 => ?_) (fun c1 => ?_)
    · replace hf := ifp c1 hf
      refine lv_iconst (v := 0) C.1 C.2.1 dX8_clearAll_21 (by decide) ?_
      obtain ⟨y2, ey2, hf⟩ := stv_e hf
      refine nm_i ey2 ?_
      refine lv_istore_n (lv' := [(1, .int y2), (0, .ref (a 0))]) C.1 C.2.1 dX8_clearAll_22 rfl hl (by decide) rfl (fun ls hl => ?_)
      exact rX8_clearAll_0_23 C hr 500 y2 S _ _ _ _ hf G (lv_sub hl [1, 0] rfl)
    · replace hf := ifq c1 hf
      refine lv_aload_n C.1 C.2.1 dX8_clearAll_8 rfl (lv_at hl 0 rfl) ?_
      refine gM_0_7 C G k_765 dX8_clearAll_9 ?_
      refine lv_iload_n C.1 C.2.1 dX8_clearAll_12 rfl (lv_at hl 1 rfl) ?_
      refine lv_iconst (v := (-1)) C.1 C.2.1 dX8_clearAll_13 (by decide) ?_
      obtain ⟨hi3, hf⟩ := ifn hf
      refine sM_6 C G hi3 dX8_clearAll_14 (fun H locs G => ?_)
      obtain ⟨S3, eS3, hf⟩ := stp_e hf
      rw [← eS3] at G
      clear eS3
      obtain ⟨y4, ey4, hf⟩ := stv_e hf
      refine lv_iinc (v := y4) (lv' := [(1, .int y4), (0, .ref (a 0))]) C.1 C.2.1 dX8_clearAll_15 hl (k := 1) rfl (by rw [ey4]; rfl) (by decide) rfl (fun ls hl => ?_)
      refine lv_goto (tgt := 2) C.1 C.2.1 dX8_clearAll_18 (by decide) ?_
      exact ih y4 S3 _ _ _ _ hf G (lv_sub hl [1, 0] rfl)
set_option maxRecDepth 100000 in
set_option maxHeartbeats 4000000 in
theorem mX8_clearAll_0 (l : Launch) (D : va_G) (a : Nat → Nat) (cI cJ : ClassId) (tk : Nat) (tf : Nat → Int32) (S : St) (x : Int32 × St) (hf : fX8_clearAll_0 S = some x) : Mv l D (wM a cI cJ) a 17 cI cJ tk tf yX8_clearAll cX8_clearAll 2 { frames := 0, cells := 0, slots := 0, locals := 0 } [.ref (a 0)] S x := by
  refine opn_v (by decide +kernel) (Nat.le_of_ble_eq_true rfl) (fun p e s m below meth c C hr G ls hl => ?_)
  replace hl : lv_has ls 2 [(0, .ref (a 0))] := hl
  unfold fX8_clearAll_0 at hf
  refine lv_iconst (v := 0) C.1 C.2.1 dX8_clearAll_0 (by decide) ?_
  obtain ⟨y1, ey1, hf⟩ := stv_e hf
  refine nm_i ey1 ?_
  refine lv_istore_n (lv' := [(1, .int y1), (0, .ref (a 0))]) C.1 C.2.1 dX8_clearAll_1 rfl hl (by decide) rfl (fun ls hl => ?_)
  exact rX8_clearAll_0_2 C hr 500 y1 S _ _ _ _ hf G (lv_sub hl [1, 0] rfl)
set_option maxRecDepth 100000 in
set_option maxHeartbeats 4000000 in
theorem rX8_forget_0_9 {p : Program} {l : Launch} {e : Env} {s : State} {m : MethodId} {args : Array Value} {below : List Frame} {meth : Method} {c : Code} {D : va_G} {a : Nat → Nat} {cI cJ : ClassId} {tk : Nat} {tf : Nat → Int32} (C : Cx p s m args meth c RX8 cX8_forget 3 D cI cJ tk tf (AR a 17 s.heap.size)) (hr : meth.sig.returnType = (some .int)) : ∀ (n : Nat) (q1 : Int32) (q2 : Int32) (S : St) (x : Int32 × St) (H : Heap) (locs : List Loc) (ls : Array Slot), fX8_forget_0_9 n q1 q2 S = some x → Wd D (wM a cI cJ) (AR a 17 s.heap.size) s S H locs → lv_has ls 3 [(0, .ref (a 0)), (1, .int q1), (2, .int q2)] → W p l e { frames := 1, cells := 0, slots := 0, locals := 21 } s m args below meth c H locs 0 0 (MQ below (Qi D (wM a cI cJ) (AR a 17 s.heap.size) x) args s 0 0 (AR a 17 s.heap.size)) (F0 m 9 ls []) := by
  intro n
  induction n with
  | zero => intro q1 q2 S x H locs ls hf G hl; cases hf
  | succ n ih =>
    intro q1 q2 S x H locs ls hf G hl
    rw [fX8_forget_0_9.eq_2] at hf
    refine lv_iload_n C.1 C.2.1 dX8_forget_9 rfl (lv_at hl 2 rfl) ?_
    refine lv_bipush (v := 40) C.1 C.2.1 dX8_forget_10 (by decide) ?_
    refine lv_icmp_ge (tgt := 39) C.1 C.2.1 dX8_forget_12 (by decide) (fun c1 => ?_) (fun c1 => ?_)
    · replace hf := ifp c1 hf
      refine lv_aload_n C.1 C.2.1 dX8_forget_39 rfl (lv_at hl 0 rfl) ?_
      obtain ⟨r2, S2, eS2, hf⟩ := bnd_e hf
      refine r_calv (As := []) (na := 0) C adM G (mX8_clearAll_0 l D a cI cJ tk tf S _ eS2) k_754 k_756 k_30 k_68 k_757 (q0 := 0) rfl (ci := 8) rfl (by decide +kernel) ⟨Nat.le_of_ble_eq_true rfl, Nat.le_of_ble_eq_true rfl⟩ rfl rfl ⟨Nat.zero_le _, Nat.zero_le _⟩ rfl hl.1 rfl (Nat.le_of_ble_eq_true rfl) dX8_forget_40 (fun H locs G => ?_)
      refine lv_iload_n C.1 C.2.1 dX8_forget_43 rfl (lv_at hl 1 rfl) ?_
      exact r_iret C hr G hf dX8_forget_44
    · replace hf := ifq c1 hf
      refine lv_aload_n C.1 C.2.1 dX8_forget_15 rfl (lv_at hl 0 rfl) ?_
      refine gM_0_7 C G k_765 dX8_forget_16 ?_
      refine lv_iload_n C.1 C.2.1 dX8_forget_19 rfl (lv_at hl 2 rfl) ?_
      obtain ⟨hi3, hf⟩ := ifn hf
      refine aM_6 C G hi3 dX8_forget_20 ?_
      refine lv_iconst (v := (-1)) C.1 C.2.1 dX8_forget_21 (by decide) ?_
      refine lv_icmp_ne (tgt := 29) C.1 C.2.1 dX8_forget_22 (by decide) (fun c4 => ?_) (fun c4 => ?_)
      · replace hf := ifq c4 hf
        refine lv_iload_n C.1 C.2.1 dX8_forget_29 rfl (lv_at hl 1 rfl) ?_
        refine lv_iconst (v := 1) C.1 C.2.1 dX8_forget_30 (by decide) ?_
        refine lv_iadd C.1 C.2.1 dX8_forget_31 ?_
        obtain ⟨y6, ey6, hf⟩ := stv_e hf
        refine nm_i ey6 ?_
        refine lv_istore_n (lv' := [(1, .int y6), (0, .ref (a 0)), (2, .int q2)]) C.1 C.2.1 dX8_forget_32 rfl hl (by decide) rfl (fun ls hl => ?_)
        obtain ⟨y7, ey7, hf⟩ := stv_e hf
        refine lv_iinc (v := y7) (lv' := [(2, .int y7), (1, .int y6), (0, .ref (a 0))]) C.1 C.2.1 dX8_forget_33 hl (k := 2) rfl (by rw [ey7]; rfl) (by decide) rfl (fun ls hl => ?_)
        refine lv_goto (tgt := 9) C.1 C.2.1 dX8_forget_36 (by decide) ?_
        exact ih y6 y7 S _ _ _ _ hf G (lv_sub hl [2, 1, 0] rfl)
      · replace hf := ifp c4 hf
        refine lv_iload_n C.1 C.2.1 dX8_forget_25 rfl (lv_at hl 1 rfl) ?_
        refine lv_goto (tgt := 32) C.1 C.2.1 dX8_forget_26 (by decide) ?_
        refine lv_istore_n (lv' := [(1, .int q1), (0, .ref (a 0)), (2, .int q2)]) C.1 C.2.1 dX8_forget_32 rfl hl (by decide) rfl (fun ls hl => ?_)
        obtain ⟨y5, ey5, hf⟩ := stv_e hf
        refine lv_iinc (v := y5) (lv' := [(2, .int y5), (1, .int q1), (0, .ref (a 0))]) C.1 C.2.1 dX8_forget_33 hl (k := 2) rfl (by rw [ey5]; rfl) (by decide) rfl (fun ls hl => ?_)
        refine lv_goto (tgt := 9) C.1 C.2.1 dX8_forget_36 (by decide) ?_
        exact ih q1 y5 S _ _ _ _ hf G (lv_sub hl [2, 1, 0] rfl)
set_option maxRecDepth 100000 in
set_option maxHeartbeats 4000000 in
theorem mX8_forget_0 (l : Launch) (D : va_G) (a : Nat → Nat) (cI cJ : ClassId) (tk : Nat) (tf : Nat → Int32) (S : St) (x : Int32 × St) (hf : fX8_forget_0 S = some x) : Mi l D (wM a cI cJ) a 17 cI cJ tk tf yX8_forget cX8_forget 3 (some .int) { frames := 1, cells := 0, slots := 0, locals := 21 } [.ref (a 0)] S x := by
  refine opn_i (by decide +kernel) (Nat.le_of_ble_eq_true rfl) (fun p e s m below meth c C hr G ls hl => ?_)
  replace hl : lv_has ls 3 [(0, .ref (a 0))] := hl
  unfold fX8_forget_0 at hf
  refine lv_aload_n C.1 C.2.1 dX8_forget_0 rfl (lv_at hl 0 rfl) ?_
  refine lv_iconst (v := 0) C.1 C.2.1 dX8_forget_1 (by decide) ?_
  refine pM_0_0 C G k_758 dX8_forget_2 (fun H locs G => ?_)
  obtain ⟨S1, eS1, hf⟩ := stp_e hf
  rw [← eS1] at G
  clear eS1
  refine lv_iconst (v := 0) C.1 C.2.1 dX8_forget_5 (by decide) ?_
  obtain ⟨y2, ey2, hf⟩ := stv_e hf
  refine nm_i ey2 ?_
  refine lv_istore_n (lv' := [(1, .int y2), (0, .ref (a 0))]) C.1 C.2.1 dX8_forget_6 rfl hl (by decide) rfl (fun ls hl => ?_)
  refine lv_iconst (v := 0) C.1 C.2.1 dX8_forget_7 (by decide) ?_
  obtain ⟨y3, ey3, hf⟩ := stv_e hf
  refine nm_i ey3 ?_
  refine lv_istore_n (lv' := [(2, .int y3), (1, .int y2), (0, .ref (a 0))]) C.1 C.2.1 dX8_forget_8 rfl hl (by decide) rfl (fun ls hl => ?_)
  exact rX8_forget_0_9 C hr 500 y2 y3 S1 _ _ _ _ hf G (lv_sub hl [2, 1, 0] rfl)
set_option maxRecDepth 100000 in
set_option maxHeartbeats 4000000 in
theorem rX8_value_0_29 {p : Program} {l : Launch} {e : Env} {s : State} {m : MethodId} {args : Array Value} {below : List Frame} {meth : Method} {c : Code} {D : va_G} {a : Nat → Nat} {cI cJ : ClassId} {tk : Nat} {tf : Nat → Int32} (C : Cx p s m args meth c RX8 cX8_value 3 D cI cJ tk tf (AR a 17 s.heap.size)) (hr : meth.sig.returnType = (some .int)) : ∀ (q1 : Int32) (q2 : Int32) (z1 : Int32) (S : St) (x : Int32 × St) (H : Heap) (locs : List Loc) (ls : Array Slot), fX8_value_0_29 q1 q2 z1 S = some x → Wd D (wM a cI cJ) (AR a 17 s.heap.size) s S H locs → lv_has ls 3 [(0, .ref (a 0)), (1, .int q1), (2, .int q2)] → W p l e { frames := 1, cells := 0, slots := 0, locals := 22 } s m args below meth c H locs 0 0 (MQ below (Qi D (wM a cI cJ) (AR a 17 s.heap.size) x) args s 0 0 (AR a 17 s.heap.size)) (F0 m 29 ls [.int z1, .ref (a 0)]) := by
  intro q1 q2 z1 S x H locs ls hf G hl
  unfold fX8_value_0_29 at hf
  refine pM_0_0 C G k_758 dX8_value_29 (fun H locs G => ?_)
  obtain ⟨S1, eS1, hf⟩ := stp_e hf
  rw [← eS1] at G
  clear eS1
  refine lv_aload_n C.1 C.2.1 dX8_value_32 rfl (lv_at hl 0 rfl) ?_
  refine gM_0_0 C G k_758 dX8_value_33 ?_
  refine lv_if_le (tgt := 43) C.1 C.2.1 dX8_value_36 (by decide) (fun c2 => ?_) (fun c2 => ?_)
  · replace hf := ifp c2 hf
    refine lv_iload_n C.1 C.2.1 dX8_value_43 rfl (lv_at hl 2 rfl) ?_
    refine lv_if_ne (tgt := 56) C.1 C.2.1 dX8_value_44 (by decide) (fun c3 => ?_) (fun c3 => ?_)
    · replace hf := ifq c3 hf
      refine lv_aload_n C.1 C.2.1 dX8_value_56 rfl (lv_at hl 0 rfl) ?_
      refine gM_0_5 C G k_763 dX8_value_57 ?_
      refine lv_iload_n C.1 C.2.1 dX8_value_60 rfl (lv_at hl 1 rfl) ?_
      obtain ⟨hi5, hf⟩ := ifn hf
      refine aM_5 C G hi5 dX8_value_61 ?_
      exact r_iret C hr G hf dX8_value_62
    · replace hf := ifp c3 hf
      refine lv_aload_n C.1 C.2.1 dX8_value_47 rfl (lv_at hl 0 rfl) ?_
      refine gM_0_4 C G k_762 dX8_value_48 ?_
      refine lv_iload_n C.1 C.2.1 dX8_value_51 rfl (lv_at hl 1 rfl) ?_
      obtain ⟨hi4, hf⟩ := ifn hf
      refine aM_4 C G hi4 dX8_value_52 ?_
      refine lv_goto (tgt := 62) C.1 C.2.1 dX8_value_53 (by decide) ?_
      exact r_iret C hr G hf dX8_value_62
  · replace hf := ifq c2 hf
    refine lv_iconst (v := 0) C.1 C.2.1 dX8_value_39 (by decide) ?_
    refine lv_goto (tgt := 62) C.1 C.2.1 dX8_value_40 (by decide) ?_
    exact r_iret C hr G hf dX8_value_62
set_option maxRecDepth 100000 in
set_option maxHeartbeats 4000000 in
theorem rX8_value_0_28 {p : Program} {l : Launch} {e : Env} {s : State} {m : MethodId} {args : Array Value} {below : List Frame} {meth : Method} {c : Code} {D : va_G} {a : Nat → Nat} {cI cJ : ClassId} {tk : Nat} {tf : Nat → Int32} (C : Cx p s m args meth c RX8 cX8_value 3 D cI cJ tk tf (AR a 17 s.heap.size)) (hr : meth.sig.returnType = (some .int)) : ∀ (q1 : Int32) (q2 : Int32) (S : St) (x : Int32 × St) (H : Heap) (locs : List Loc) (ls : Array Slot), fX8_value_0_28 q1 q2 S = some x → Wd D (wM a cI cJ) (AR a 17 s.heap.size) s S H locs → lv_has ls 3 [(0, .ref (a 0)), (1, .int q1), (2, .int q2)] → W p l e { frames := 1, cells := 0, slots := 0, locals := 22 } s m args below meth c H locs 0 0 (MQ below (Qi D (wM a cI cJ) (AR a 17 s.heap.size) x) args s 0 0 (AR a 17 s.heap.size)) (F0 m 28 ls [.ref (a 0)]) := by
  intro q1 q2 S x H locs ls hf G hl
  unfold fX8_value_0_28 at hf
  refine lv_iconst (v := 1) C.1 C.2.1 dX8_value_28 (by decide) ?_
  exact rX8_value_0_29 C hr q1 q2 (1 : Int32) S _ _ _ _ hf G (lv_sub hl [0, 1, 2] rfl)
set_option maxRecDepth 100000 in
set_option maxHeartbeats 4000000 in
theorem mX8_value_0 (l : Launch) (D : va_G) (a : Nat → Nat) (cI cJ : ClassId) (tk : Nat) (tf : Nat → Int32) (p1 : Int32) (p2 : Int32) (S : St) (x : Int32 × St) (hf : fX8_value_0 p1 p2 S = some x) : Mi l D (wM a cI cJ) a 17 cI cJ tk tf yX8_value cX8_value 3 (some .int) { frames := 1, cells := 0, slots := 0, locals := 22 } [.ref (a 0), .int p1, .int p2] S x := by
  refine opn_i (by decide +kernel) (Nat.le_of_ble_eq_true rfl) (fun p e s m below meth c C hr G ls hl => ?_)
  replace hl : lv_has ls 3 [(0, .ref (a 0)), (1, .int p1), (2, .int p2)] := hl
  unfold fX8_value_0 at hf
  refine lv_aload_n C.1 C.2.1 dX8_value_0 rfl (lv_at hl 0 rfl) ?_
  refine lv_iload_n C.1 C.2.1 dX8_value_1 rfl (lv_at hl 1 rfl) ?_
  refine lv_iconst (v := 0) C.1 C.2.1 dX8_value_2 (by decide) ?_
  refine lv_aload_n C.1 C.2.1 dX8_value_3 rfl (lv_at hl 0 rfl) ?_
  refine gM_0_6 C G k_764 dX8_value_4 ?_
  refine lv_iconst (v := 1) C.1 C.2.1 dX8_value_7 (by decide) ?_
  refine lv_isub C.1 C.2.1 dX8_value_8 ?_
  obtain ⟨r1, S1, eS1, hf⟩ := bnd_e hf
  refine r_cals (As := [.int p1, .int (0 : Int32), .int ((S.1 0 6) - (1 : Int32))]) (na := 3) C adM G (mX8_in l D a cI cJ tk tf p1 (0 : Int32) ((S.1 0 6) - (1 : Int32)) S _ eS1) k_857 k_858 k_68 k_859 (by decide +kernel) ⟨Nat.le_of_ble_eq_true rfl, Nat.le_of_ble_eq_true rfl⟩ rfl rfl ⟨Nat.zero_le _, Nat.zero_le _⟩ rfl hl.1 rfl (Nat.le_of_ble_eq_true rfl) dX8_value_9 (fun H locs G => ?_)
  refine lv_if_eq (tgt := 28) C.1 C.2.1 dX8_value_12 (by decide) (fun c2 => ?_) (fun c2 => ?_)
  · replace hf := ifp c2 hf
    exact rX8_value_0_28 C hr p1 p2 S1 _ _ _ _ hf G (lv_sub hl [0, 1, 2] rfl)
  · replace hf := ifq c2 hf
    refine lv_iload_n C.1 C.2.1 dX8_value_15 rfl (lv_at hl 2 rfl) ?_
    refine lv_iconst (v := 0) C.1 C.2.1 dX8_value_16 (by decide) ?_
    refine lv_iconst (v := 1) C.1 C.2.1 dX8_value_17 (by decide) ?_
    obtain ⟨r3, S3, eS3, hf⟩ := bnd_e hf
    refine r_cals (As := [.int p2, .int (0 : Int32), .int (1 : Int32)]) (na := 3) C adM G (mX8_in l D a cI cJ tk tf p2 (0 : Int32) (1 : Int32) S1 _ eS3) k_857 k_858 k_68 k_859 (by decide +kernel) ⟨Nat.le_of_ble_eq_true rfl, Nat.le_of_ble_eq_true rfl⟩ rfl rfl ⟨Nat.zero_le _, Nat.zero_le _⟩ rfl hl.1 rfl (Nat.le_of_ble_eq_true rfl) dX8_value_18 (fun H locs G => ?_)
    refine lv_if_eq (tgt := 28) C.1 C.2.1 dX8_value_21 (by decide) (fun c4 => ?_) (fun c4 => ?_)
    · replace hf := ifp c4 hf
      exact rX8_value_0_28 C hr p1 p2 S3 _ _ _ _ hf G (lv_sub hl [0, 1, 2] rfl)
    · replace hf := ifq c4 hf
      refine lv_iconst (v := 0) C.1 C.2.1 dX8_value_24 (by decide) ?_
      refine lv_goto (tgt := 29) C.1 C.2.1 dX8_value_25 (by decide) ?_
      exact rX8_value_0_29 C hr p1 p2 (0 : Int32) S3 _ _ _ _ hf G (lv_sub hl [0, 1, 2] rfl)
set_option maxRecDepth 100000 in
set_option maxHeartbeats 4000000 in
theorem rX8_record_0_16 {p : Program} {l : Launch} {e : Env} {s : State} {m : MethodId} {args : Array Value} {below : List Frame} {meth : Method} {c : Code} {D : va_G} {a : Nat → Nat} {cI cJ : ClassId} {tk : Nat} {tf : Nat → Int32} (C : Cx p s m args meth c RX8 cX8_record 2 D cI cJ tk tf (AR a 17 s.heap.size)) (hr : meth.sig.returnType = (some .int)) : ∀ (q1 : Int32) (z1 : Int32) (S : St) (x : Int32 × St) (H : Heap) (locs : List Loc) (ls : Array Slot), fX8_record_0_16 q1 z1 S = some x → Wd D (wM a cI cJ) (AR a 17 s.heap.size) s S H locs → lv_has ls 2 [(0, .ref (a 0)), (1, .int q1)] → W p l e { frames := 1, cells := 0, slots := 0, locals := 22 } s m args below meth c H locs 0 0 (MQ below (Qi D (wM a cI cJ) (AR a 17 s.heap.size) x) args s 0 0 (AR a 17 s.heap.size)) (F0 m 16 ls [.int z1, .ref (a 0)]) := by
  intro q1 z1 S x H locs ls hf G hl
  unfold fX8_record_0_16 at hf
  refine pM_0_0 C G k_758 dX8_record_16 (fun H locs G => ?_)
  obtain ⟨S1, eS1, hf⟩ := stp_e hf
  rw [← eS1] at G
  clear eS1
  refine lv_aload_n C.1 C.2.1 dX8_record_19 rfl (lv_at hl 0 rfl) ?_
  refine gM_0_0 C G k_758 dX8_record_20 ?_
  refine lv_if_le (tgt := 30) C.1 C.2.1 dX8_record_23 (by decide) (fun c2 => ?_) (fun c2 => ?_)
  · replace hf := ifp c2 hf
    refine lv_iload_n C.1 C.2.1 dX8_record_30 rfl (lv_at hl 1 rfl) ?_
    refine lv_bipush (v := 6) C.1 C.2.1 dX8_record_31 (by decide) ?_
    refine lv_icmp_ge (tgt := 44) C.1 C.2.1 dX8_record_33 (by decide) (fun c3 => ?_) (fun c3 => ?_)
    · replace hf := ifp c3 hf
      refine lv_iload_n C.1 C.2.1 dX8_record_44 rfl (lv_at hl 1 rfl) ?_
      refine lv_bipush (v := 6) C.1 C.2.1 dX8_record_45 (by decide) ?_
      refine lv_icmp_ne (tgt := 57) C.1 C.2.1 dX8_record_47 (by decide) (fun c4 => ?_) (fun c4 => ?_)
      · replace hf := ifq c4 hf
        refine lv_iload_n C.1 C.2.1 dX8_record_57 rfl (lv_at hl 1 rfl) ?_
        refine lv_bipush (v := 7) C.1 C.2.1 dX8_record_58 (by decide) ?_
        refine lv_icmp_ne (tgt := 70) C.1 C.2.1 dX8_record_60 (by decide) (fun c5 => ?_) (fun c5 => ?_)
        · replace hf := ifq c5 hf
          refine lv_aload_n C.1 C.2.1 dX8_record_70 rfl (lv_at hl 0 rfl) ?_
          refine gM_0_28 C G k_786 dX8_record_71 ?_
          exact r_iret C hr G hf dX8_record_74
        · replace hf := ifp c5 hf
          refine lv_aload_n C.1 C.2.1 dX8_record_63 rfl (lv_at hl 0 rfl) ?_
          refine gM_0_27 C G k_785 dX8_record_64 ?_
          refine lv_goto (tgt := 74) C.1 C.2.1 dX8_record_67 (by decide) ?_
          exact r_iret C hr G hf dX8_record_74
      · replace hf := ifp c4 hf
        refine lv_aload_n C.1 C.2.1 dX8_record_50 rfl (lv_at hl 0 rfl) ?_
        refine gM_0_26 C G k_784 dX8_record_51 ?_
        refine lv_goto (tgt := 74) C.1 C.2.1 dX8_record_54 (by decide) ?_
        exact r_iret C hr G hf dX8_record_74
    · replace hf := ifq c3 hf
      refine lv_aload_n C.1 C.2.1 dX8_record_36 rfl (lv_at hl 0 rfl) ?_
      refine lv_iload_n C.1 C.2.1 dX8_record_37 rfl (lv_at hl 1 rfl) ?_
      obtain ⟨r6, S6, eS6, hf⟩ := bnd_e hf
      refine r_cali (As := [.int q1]) (na := 1) C adM G (mX8_told_0 l D a cI cJ tk tf q1 S1 _ eS6) k_989 k_991 k_56 k_68 k_992 (q0 := 0) rfl (ci := 8) rfl (by decide +kernel) ⟨Nat.le_of_ble_eq_true rfl, Nat.le_of_ble_eq_true rfl⟩ rfl rfl ⟨Nat.zero_le _, Nat.zero_le _⟩ rfl hl.1 rfl (Nat.le_of_ble_eq_true rfl) dX8_record_38 (fun H locs G => ?_)
      refine lv_goto (tgt := 74) C.1 C.2.1 dX8_record_41 (by decide) ?_
      exact r_iret C hr G hf dX8_record_74
  · replace hf := ifq c2 hf
    refine lv_iconst (v := 0) C.1 C.2.1 dX8_record_26 (by decide) ?_
    refine lv_goto (tgt := 74) C.1 C.2.1 dX8_record_27 (by decide) ?_
    exact r_iret C hr G hf dX8_record_74
set_option maxRecDepth 100000 in
set_option maxHeartbeats 4000000 in
theorem mX8_record_0 (l : Launch) (D : va_G) (a : Nat → Nat) (cI cJ : ClassId) (tk : Nat) (tf : Nat → Int32) (p1 : Int32) (S : St) (x : Int32 × St) (hf : fX8_record_0 p1 S = some x) : Mi l D (wM a cI cJ) a 17 cI cJ tk tf yX8_record cX8_record 2 (some .int) { frames := 1, cells := 0, slots := 0, locals := 22 } [.ref (a 0), .int p1] S x := by
  refine opn_i (by decide +kernel) (Nat.le_of_ble_eq_true rfl) (fun p e s m below meth c C hr G ls hl => ?_)
  replace hl : lv_has ls 2 [(0, .ref (a 0)), (1, .int p1)] := hl
  unfold fX8_record_0 at hf
  refine lv_aload_n C.1 C.2.1 dX8_record_0 rfl (lv_at hl 0 rfl) ?_
  refine lv_iload_n C.1 C.2.1 dX8_record_1 rfl (lv_at hl 1 rfl) ?_
  refine lv_iconst (v := 0) C.1 C.2.1 dX8_record_2 (by decide) ?_
  refine lv_bipush (v := 8) C.1 C.2.1 dX8_record_3 (by decide) ?_
  obtain ⟨r1, S1, eS1, hf⟩ := bnd_e hf
  refine r_cals (As := [.int p1, .int (0 : Int32), .int (8 : Int32)]) (na := 3) C adM G (mX8_in l D a cI cJ tk tf p1 (0 : Int32) (8 : Int32) S _ eS1) k_857 k_858 k_68 k_859 (by decide +kernel) ⟨Nat.le_of_ble_eq_true rfl, Nat.le_of_ble_eq_true rfl⟩ rfl rfl ⟨Nat.zero_le _, Nat.zero_le _⟩ rfl hl.1 rfl (Nat.le_of_ble_eq_true rfl) dX8_record_5 (fun H locs G => ?_)
  refine lv_if_eq (tgt := 15) C.1 C.2.1 dX8_record_8 (by decide) (fun c2 => ?_) (fun c2 => ?_)
  · replace hf := ifp c2 hf
    refine lv_iconst (v := 1) C.1 C.2.1 dX8_record_15 (by decide) ?_
    exact rX8_record_0_16 C hr p1 (1 : Int32) S1 _ _ _ _ hf G (lv_sub hl [0, 1] rfl)
  · replace hf := ifq c2 hf
    refine lv_iconst (v := 0) C.1 C.2.1 dX8_record_11 (by decide) ?_
    refine lv_goto (tgt := 16) C.1 C.2.1 dX8_record_12 (by decide) ?_
    exact rX8_record_0_16 C hr p1 (0 : Int32) S1 _ _ _ _ hf G (lv_sub hl [0, 1] rfl)
