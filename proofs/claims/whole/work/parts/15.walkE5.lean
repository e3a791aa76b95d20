theorem dX7_operate_0 : decode cX7_operate 0 = .ok (.aload_n 0, 1) := by decide +kernel
theorem dX7_operate_1 : decode cX7_operate 1 = .ok (.getfield 110, 3) := by decide +kernel
theorem dX7_operate_4 : decode cX7_operate 4 = .ok (.ifCond .eq 11, 3) := by decide +kernel
theorem dX7_operate_7 : decode cX7_operate 7 = .ok (.aload_n 0, 1) := by decide +kernel
theorem dX7_operate_8 : decode cX7_operate 8 = .ok (.iconst 0, 1) := by decide +kernel
theorem dX7_operate_9 : decode cX7_operate 9 = .ok (.putfield 110, 3) := by decide +kernel
theorem dX7_operate_12 : decode cX7_operate 12 = .ok (.bipush 11, 2) := by decide +kernel
theorem dX7_operate_14 : decode cX7_operate 14 = .ok (.ireturn, 1) := by decide +kernel
theorem dX7_operate_15 : decode cX7_operate 15 = .ok (.aload_n 0, 1) := by decide +kernel
theorem dX7_operate_16 : decode cX7_operate 16 = .ok (.iload_n 1, 1) := by decide +kernel
theorem dX7_operate_17 : decode cX7_operate 17 = .ok (.invokevirtual 240, 3) := by decide +kernel
theorem dX7_operate_20 : decode cX7_operate 20 = .ok (.istore_n 2, 1) := by decide +kernel
theorem dX7_operate_21 : decode cX7_operate 21 = .ok (.iload_n 2, 1) := by decide +kernel
theorem dX7_operate_22 : decode cX7_operate 22 = .ok (.ifCond .eq 5, 3) := by decide +kernel
theorem dX7_operate_25 : decode cX7_operate 25 = .ok (.iload_n 2, 1) := by decide +kernel
theorem dX7_operate_26 : decode cX7_operate 26 = .ok (.ireturn, 1) := by decide +kernel
theorem dX7_operate_27 : decode cX7_operate 27 = .ok (.iload_n 1, 1) := by decide +kernel
theorem dX7_operate_28 : decode cX7_operate 28 = .ok (.tableswitch 205 16 27 #[64, 69, 74, 104, 117, 146, 156, 161, 169, 174, 179, 192], 64) := by decide +kernel
theorem dX7_operate_92 : decode cX7_operate 92 = .ok (.aload_n 0, 1) := by decide +kernel
theorem dX7_operate_93 : decode cX7_operate 93 = .ok (.invokevirtual 243, 3) := by decide +kernel
theorem dX7_operate_96 : decode cX7_operate 96 = .ok (.ireturn, 1) := by decide +kernel
theorem dX7_operate_97 : decode cX7_operate 97 = .ok (.aload_n 0, 1) := by decide +kernel
theorem dX7_operate_98 : decode cX7_operate 98 = .ok (.invokevirtual 246, 3) := by decide +kernel
theorem dX7_operate_101 : decode cX7_operate 101 = .ok (.ireturn, 1) := by decide +kernel
theorem dX7_operate_102 : decode cX7_operate 102 = .ok (.aload_n 0, 1) := by decide +kernel
theorem dX7_operate_103 : decode cX7_operate 103 = .ok (.aload_n 0, 1) := by decide +kernel
theorem dX7_operate_104 : decode cX7_operate 104 = .ok (.getfield 27, 3) := by decide +kernel
theorem dX7_operate_107 : decode cX7_operate 107 = .ok (.aload_n 0, 1) := by decide +kernel
theorem dX7_operate_108 : decode cX7_operate 108 = .ok (.getfield 27, 3) := by decide +kernel
theorem dX7_operate_111 : decode cX7_operate 111 = .ok (.iconst 2, 1) := by decide +kernel
theorem dX7_operate_112 : decode cX7_operate 112 = .ok (.invokevirtual 249, 3) := by decide +kernel
theorem dX7_operate_115 : decode cX7_operate 115 = .ok (.iconst 1, 1) := by decide +kernel
theorem dX7_operate_116 : decode cX7_operate 116 = .ok (.if_icmp .ne 7, 3) := by decide +kernel
theorem dX7_operate_119 : decode cX7_operate 119 = .ok (.iconst 1, 1) := by decide +kernel
theorem dX7_operate_120 : decode cX7_operate 120 = .ok (.goto 4, 3) := by decide +kernel
theorem dX7_operate_123 : decode cX7_operate 123 = .ok (.iconst 0, 1) := by decide +kernel
theorem dX7_operate_124 : decode cX7_operate 124 = .ok (.invokevirtual 249, 3) := by decide +kernel
theorem dX7_operate_127 : decode cX7_operate 127 = .ok (.iconst 3, 1) := by decide +kernel
theorem dX7_operate_128 : decode cX7_operate 128 = .ok (.invokevirtual 252, 3) := by decide +kernel
theorem dX7_operate_131 : decode cX7_operate 131 = .ok (.ireturn, 1) := by decide +kernel
theorem dX7_operate_132 : decode cX7_operate 132 = .ok (.aload_n 0, 1) := by decide +kernel
theorem dX7_operate_133 : decode cX7_operate 133 = .ok (.aload_n 0, 1) := by decide +kernel
theorem dX7_operate_134 : decode cX7_operate 134 = .ok (.getfield 27, 3) := by decide +kernel
theorem dX7_operate_137 : decode cX7_operate 137 = .ok (.iconst 1, 1) := by decide +kernel
theorem dX7_operate_138 : decode cX7_operate 138 = .ok (.invokevirtual 249, 3) := by decide +kernel
theorem dX7_operate_141 : decode cX7_operate 141 = .ok (.invokevirtual 255, 3) := by decide +kernel
theorem dX7_operate_144 : decode cX7_operate 144 = .ok (.ireturn, 1) := by decide +kernel
theorem dX7_operate_145 : decode cX7_operate 145 = .ok (.aload_n 0, 1) := by decide +kernel
theorem dX7_operate_146 : decode cX7_operate 146 = .ok (.aload_n 0, 1) := by decide +kernel
theorem dX7_operate_147 : decode cX7_operate 147 = .ok (.getfield 27, 3) := by decide +kernel
theorem dX7_operate_150 : decode cX7_operate 150 = .ok (.iconst 3, 1) := by decide +kernel
theorem dX7_operate_151 : decode cX7_operate 151 = .ok (.invokevirtual 249, 3) := by decide +kernel
theorem dX7_operate_154 : decode cX7_operate 154 = .ok (.aload_n 0, 1) := by decide +kernel
theorem dX7_operate_155 : decode cX7_operate 155 = .ok (.getfield 27, 3) := by decide +kernel
theorem dX7_operate_158 : decode cX7_operate 158 = .ok (.iconst 2, 1) := by decide +kernel
theorem dX7_operate_159 : decode cX7_operate 159 = .ok (.invokevirtual 249, 3) := by decide +kernel
theorem dX7_operate_162 : decode cX7_operate 162 = .ok (.aload_n 0, 1) := by decide +kernel
theorem dX7_operate_163 : decode cX7_operate 163 = .ok (.getfield 27, 3) := by decide +kernel
theorem dX7_operate_166 : decode cX7_operate 166 = .ok (.iconst 1, 1) := by decide +kernel
theorem dX7_operate_167 : decode cX7_operate 167 = .ok (.invokevirtual 249, 3) := by decide +kernel
theorem dX7_operate_170 : decode cX7_operate 170 = .ok (.invokevirtual 258, 3) := by decide +kernel
theorem dX7_operate_173 : decode cX7_operate 173 = .ok (.ireturn, 1) := by decide +kernel
theorem dX7_operate_174 : decode cX7_operate 174 = .ok (.aload_n 0, 1) := by decide +kernel
theorem dX7_operate_175 : decode cX7_operate 175 = .ok (.iconst 1, 1) := by decide +kernel
theorem dX7_operate_176 : decode cX7_operate 176 = .ok (.iconst 0, 1) := by decide +kernel
theorem dX7_operate_177 : decode cX7_operate 177 = .ok (.iconst 0, 1) := by decide +kernel
theorem dX7_operate_178 : decode cX7_operate 178 = .ok (.iconst 0, 1) := by decide +kernel
theorem dX7_operate_179 : decode cX7_operate 179 = .ok (.iconst 1, 1) := by decide +kernel
theorem dX7_operate_180 : decode cX7_operate 180 = .ok (.invokevirtual 261, 3) := by decide +kernel
theorem dX7_operate_183 : decode cX7_operate 183 = .ok (.ireturn, 1) := by decide +kernel
theorem dX7_operate_184 : decode cX7_operate 184 = .ok (.aload_n 0, 1) := by decide +kernel
theorem dX7_operate_185 : decode cX7_operate 185 = .ok (.invokevirtual 265, 3) := by decide +kernel
theorem dX7_operate_188 : decode cX7_operate 188 = .ok (.ireturn, 1) := by decide +kernel
theorem dX7_operate_189 : decode cX7_operate 189 = .ok (.aload_n 0, 1) := by decide +kernel
theorem dX7_operate_190 : decode cX7_operate 190 = .ok (.bipush 99, 2) := by decide +kernel
theorem dX7_operate_192 : decode cX7_operate 192 = .ok (.invokevirtual 227, 3) := by decide +kernel
theorem dX7_operate_195 : decode cX7_operate 195 = .ok (.iconst 0, 1) := by decide +kernel
theorem dX7_operate_196 : decode cX7_operate 196 = .ok (.ireturn, 1) := by decide +kernel
theorem dX7_operate_197 : decode cX7_operate 197 = .ok (.aload_n 0, 1) := by decide +kernel
theorem dX7_operate_198 : decode cX7_operate 198 = .ok (.invokevirtual 268, 3) := by decide +kernel
theorem dX7_operate_201 : decode cX7_operate 201 = .ok (.ireturn, 1) := by decide +kernel
theorem dX7_operate_202 : decode cX7_operate 202 = .ok (.aload_n 0, 1) := by decide +kernel
theorem dX7_operate_203 : decode cX7_operate 203 = .ok (.invokevirtual 271, 3) := by decide +kernel
theorem dX7_operate_206 : decode cX7_operate 206 = .ok (.ireturn, 1) := by decide +kernel
theorem dX7_operate_207 : decode cX7_operate 207 = .ok (.aload_n 0, 1) := by decide +kernel
theorem dX7_operate_208 : decode cX7_operate 208 = .ok (.aload_n 0, 1) := by decide +kernel
theorem dX7_operate_209 : decode cX7_operate 209 = .ok (.getfield 27, 3) := by decide +kernel
theorem dX7_operate_212 : decode cX7_operate 212 = .ok (.iconst 0, 1) := by decide +kernel
theorem dX7_operate_213 : decode cX7_operate 213 = .ok (.invokevirtual 249, 3) := by decide +kernel
theorem dX7_operate_216 : decode cX7_operate 216 = .ok (.invokevirtual 274, 3) := by decide +kernel
theorem dX7_operate_219 : decode cX7_operate 219 = .ok (.ireturn, 1) := by decide +kernel
theorem dX7_operate_220 : decode cX7_operate 220 = .ok (.aload_n 0, 1) := by decide +kernel
theorem dX7_operate_221 : decode cX7_operate 221 = .ok (.aload_n 0, 1) := by decide +kernel
theorem dX7_operate_222 : decode cX7_operate 222 = .ok (.getfield 27, 3) := by decide +kernel
theorem dX7_operate_225 : decode cX7_operate 225 = .ok (.iconst 0, 1) := by decide +kernel
theorem dX7_operate_226 : decode cX7_operate 226 = .ok (.invokevirtual 249, 3) := by decide +kernel
theorem dX7_operate_229 : decode cX7_operate 229 = .ok (.invokevirtual 277, 3) := by decide +kernel
theorem dX7_operate_232 : decode cX7_operate 232 = .ok (.ireturn, 1) := by decide +kernel
theorem dX7_operate_233 : decode cX7_operate 233 = .ok (.aload_n 0, 1) := by decide +kernel
theorem dX7_operate_234 : decode cX7_operate 234 = .ok (.getfield 19, 3) := by decide +kernel
theorem dX7_operate_237 : decode cX7_operate 237 = .ok (.iload_n 1, 1) := by decide +kernel
theorem dX7_operate_238 : decode cX7_operate 238 = .ok (.invokevirtual 279, 3) := by decide +kernel
theorem dX7_operate_241 : decode cX7_operate 241 = .ok (.ireturn, 1) := by decide +kernel
theorem dX7_goOn_0 : decode cX7_goOn 0 = .ok (.aload_n 0, 1) := by decide +kernel
theorem dX7_goOn_1 : decode cX7_goOn 1 = .ok (.getfield 47, 3) := by decide +kernel
theorem dX7_goOn_4 : decode cX7_goOn 4 = .ok (.invokevirtual 180, 3) := by decide +kernel
theorem dX7_goOn_7 : decode cX7_goOn 7 = .ok (.istore_n 1, 1) := by decide +kernel
theorem dX7_goOn_8 : decode cX7_goOn 8 = .ok (.aload_n 0, 1) := by decide +kernel
theorem dX7_goOn_9 : decode cX7_goOn 9 = .ok (.getfield 47, 3) := by decide +kernel
theorem dX7_goOn_12 : decode cX7_goOn 12 = .ok (.invokevirtual 183, 3) := by decide +kernel
theorem dX7_goOn_15 : decode cX7_goOn 15 = .ok (.istore_n 2, 1) := by decide +kernel
theorem dX7_goOn_16 : decode cX7_goOn 16 = .ok (.iload_n 2, 1) := by decide +kernel
theorem dX7_goOn_17 : decode cX7_goOn 17 = .ok (.aload_n 0, 1) := by decide +kernel
theorem dX7_goOn_18 : decode cX7_goOn 18 = .ok (.getfield 10, 3) := by decide +kernel
theorem dX7_goOn_21 : decode cX7_goOn 21 = .ok (.iload_n 1, 1) := by decide +kernel
theorem dX7_goOn_22 : decode cX7_goOn 22 = .ok (.invokevirtual 66, 3) := by decide +kernel
theorem dX7_goOn_25 : decode cX7_goOn 25 = .ok (.if_icmp .lt 11, 3) := by decide +kernel
theorem dX7_goOn_28 : decode cX7_goOn 28 = .ok (.aload_n 0, 1) := by decide +kernel
theorem dX7_goOn_29 : decode cX7_goOn 29 = .ok (.getfield 47, 3) := by decide +kernel
theorem dX7_goOn_32 : decode cX7_goOn 32 = .ok (.invokevirtual 177, 3) := by decide +kernel
theorem dX7_goOn_35 : decode cX7_goOn 35 = .ok (.return_, 1) := by decide +kernel
theorem dX7_goOn_36 : decode cX7_goOn 36 = .ok (.aload_n 0, 1) := by decide +kernel
theorem dX7_goOn_37 : decode cX7_goOn 37 = .ok (.getfield 47, 3) := by decide +kernel
theorem dX7_goOn_40 : decode cX7_goOn 40 = .ok (.invokevirtual 186, 3) := by decide +kernel
theorem dX7_goOn_43 : decode cX7_goOn 43 = .ok (.aload_n 0, 1) := by decide +kernel
theorem dX7_goOn_44 : decode cX7_goOn 44 = .ok (.getfield 10, 3) := by decide +kernel
theorem dX7_goOn_47 : decode cX7_goOn 47 = .ok (.iload_n 1, 1) := by decide +kernel
theorem dX7_goOn_48 : decode cX7_goOn 48 = .ok (.iload_n 2, 1) := by decide +kernel
theorem dX7_goOn_49 : decode cX7_goOn 49 = .ok (.invokevirtual 189, 3) := by decide +kernel
theorem dX7_goOn_52 : decode cX7_goOn 52 = .ok (.istore_n 3, 1) := by decide +kernel
theorem dX7_goOn_53 : decode cX7_goOn 53 = .ok (.aload_n 0, 1) := by decide +kernel
theorem dX7_goOn_54 : decode cX7_goOn 54 = .ok (.getfield 10, 3) := by decide +kernel
theorem dX7_goOn_57 : decode cX7_goOn 57 = .ok (.iload_n 1, 1) := by decide +kernel
theorem dX7_goOn_58 : decode cX7_goOn 58 = .ok (.iload_n 2, 1) := by decide +kernel
theorem dX7_goOn_59 : decode cX7_goOn 59 = .ok (.invokevirtual 192, 3) := by decide +kernel
theorem dX7_goOn_62 : decode cX7_goOn 62 = .ok (.istore 4, 2) := by decide +kernel
theorem dX7_goOn_64 : decode cX7_goOn 64 = .ok (.iload_n 3, 1) := by decide +kernel
theorem dX7_goOn_65 : decode cX7_goOn 65 = .ok (.iconst 5, 1) := by decide +kernel
theorem dX7_goOn_66 : decode cX7_goOn 66 = .ok (.if_icmp .ne 27, 3) := by decide +kernel
theorem dX7_goOn_69 : decode cX7_goOn 69 = .ok (.aload_n 0, 1) := by decide +kernel
theorem dX7_goOn_70 : decode cX7_goOn 70 = .ok (.iload 4, 2) := by decide +kernel
theorem dX7_goOn_72 : decode cX7_goOn 72 = .ok (.invokevirtual 194, 3) := by decide +kernel
theorem dX7_goOn_75 : decode cX7_goOn 75 = .ok (.istore 5, 2) := by decide +kernel
theorem dX7_goOn_77 : decode cX7_goOn 77 = .ok (.iload 5, 2) := by decide +kernel
theorem dX7_goOn_79 : decode cX7_goOn 79 = .ok (.ifCond .eq 11, 3) := by decide +kernel
theorem dX7_goOn_82 : decode cX7_goOn 82 = .ok (.aload_n 0, 1) := by decide +kernel
theorem dX7_goOn_83 : decode cX7_goOn 83 = .ok (.iload 5, 2) := by decide +kernel
theorem dX7_goOn_85 : decode cX7_goOn 85 = .ok (.iload 4, 2) := by decide +kernel
theorem dX7_goOn_87 : decode cX7_goOn 87 = .ok (.invokevirtual 197, 3) := by decide +kernel
theorem dX7_goOn_90 : decode cX7_goOn 90 = .ok (.goto 22, 3) := by decide +kernel
theorem dX7_goOn_93 : decode cX7_goOn 93 = .ok (.aload_n 0, 1) := by decide +kernel
theorem dX7_goOn_94 : decode cX7_goOn 94 = .ok (.getfield 27, 3) := by decide +kernel
theorem dX7_goOn_97 : decode cX7_goOn 97 = .ok (.iload_n 3, 1) := by decide +kernel
theorem dX7_goOn_98 : decode cX7_goOn 98 = .ok (.iload 4, 2) := by decide +kernel
theorem dX7_goOn_100 : decode cX7_goOn 100 = .ok (.invokevirtual 77, 3) := by decide +kernel
theorem dX7_goOn_103 : decode cX7_goOn 103 = .ok (.ifCond .ne 9, 3) := by decide +kernel
theorem dX7_goOn_106 : decode cX7_goOn 106 = .ok (.aload_n 0, 1) := by decide +kernel
theorem dX7_goOn_107 : decode cX7_goOn 107 = .ok (.iconst 2, 1) := by decide +kernel
theorem dX7_goOn_108 : decode cX7_goOn 108 = .ok (.iconst (-1), 1) := by decide +kernel
theorem dX7_goOn_109 : decode cX7_goOn 109 = .ok (.invokevirtual 197, 3) := by decide +kernel
theorem dX7_goOn_112 : decode cX7_goOn 112 = .ok (.return_, 1) := by decide +kernel
theorem dX7_step_0 : decode cX7_step 0 = .ok (.aload_n 0, 1) := by decide +kernel
theorem dX7_step_1 : decode cX7_step 1 = .ok (.getfield 47, 3) := by decide +kernel
theorem dX7_step_4 : decode cX7_step 4 = .ok (.invokevirtual 165, 3) := by decide +kernel
theorem dX7_step_7 : decode cX7_step 7 = .ok (.tableswitch 50 0 3 #[29, 36, 36, 43], 29) := by decide +kernel
theorem dX7_step_36 : decode cX7_step 36 = .ok (.aload_n 0, 1) := by decide +kernel
theorem dX7_step_37 : decode cX7_step 37 = .ok (.invokevirtual 168, 3) := by decide +kernel
theorem dX7_step_40 : decode cX7_step 40 = .ok (.goto 24, 3) := by decide +kernel
theorem dX7_step_43 : decode cX7_step 43 = .ok (.aload_n 0, 1) := by decide +kernel
theorem dX7_step_44 : decode cX7_step 44 = .ok (.invokevirtual 171, 3) := by decide +kernel
theorem dX7_step_47 : decode cX7_step 47 = .ok (.goto 17, 3) := by decide +kernel
theorem dX7_step_50 : decode cX7_step 50 = .ok (.aload_n 0, 1) := by decide +kernel
theorem dX7_step_51 : decode cX7_step 51 = .ok (.invokevirtual 174, 3) := by decide +kernel
theorem dX7_step_54 : decode cX7_step 54 = .ok (.goto 10, 3) := by decide +kernel
theorem dX7_step_57 : decode cX7_step 57 = .ok (.aload_n 0, 1) := by decide +kernel
theorem dX7_step_58 : decode cX7_step 58 = .ok (.getfield 47, 3) := by decide +kernel
theorem dX7_step_61 : decode cX7_step 61 = .ok (.invokevirtual 177, 3) := by decide +kernel
theorem dX7_step_64 : decode cX7_step 64 = .ok (.return_, 1) := by decide +kernel
theorem dX7_run_0 : decode cX7_run 0 = .ok (.aload_n 0, 1) := by decide +kernel
theorem dX7_run_1 : decode cX7_run 1 = .ok (.getfield 10, 3) := by decide +kernel
theorem dX7_run_4 : decode cX7_run 4 = .ok (.iload_n 1, 1) := by decide +kernel
theorem dX7_run_5 : decode cX7_run 5 = .ok (.invokevirtual 58, 3) := by decide +kernel
theorem dX7_run_8 : decode cX7_run 8 = .ok (.ifCond .ne 5, 3) := by decide +kernel
theorem dX7_run_11 : decode cX7_run 11 = .ok (.iconst (-1), 1) := by decide +kernel
theorem dX7_run_12 : decode cX7_run 12 = .ok (.ireturn, 1) := by decide +kernel
theorem dX7_run_13 : decode cX7_run 13 = .ok (.iload_n 2, 1) := by decide +kernel
theorem dX7_run_14 : decode cX7_run 14 = .ok (.iconst 1, 1) := by decide +kernel
theorem dX7_run_15 : decode cX7_run 15 = .ok (.if_icmp .lt 10, 3) := by decide +kernel
theorem dX7_run_18 : decode cX7_run 18 = .ok (.iload_n 2, 1) := by decide +kernel
theorem dX7_run_19 : decode cX7_run 19 = .ok (.sipush 5000, 3) := by decide +kernel
theorem dX7_run_22 : decode cX7_run 22 = .ok (.if_icmp .le 6, 3) := by decide +kernel
theorem dX7_run_25 : decode cX7_run 25 = .ok (.bipush (-2), 2) := by decide +kernel
theorem dX7_run_27 : decode cX7_run 27 = .ok (.ireturn, 1) := by decide +kernel
theorem dX7_run_28 : decode cX7_run 28 = .ok (.aload_n 0, 1) := by decide +kernel
theorem dX7_run_29 : decode cX7_run 29 = .ok (.getfield 47, 3) := by decide +kernel
theorem dX7_run_32 : decode cX7_run 32 = .ok (.iload_n 1, 1) := by decide +kernel
theorem dX7_run_33 : decode cX7_run 33 = .ok (.invokevirtual 90, 3) := by decide +kernel
theorem dX7_run_36 : decode cX7_run 36 = .ok (.aload_n 0, 1) := by decide +kernel
theorem dX7_run_37 : decode cX7_run 37 = .ok (.iconst 0, 1) := by decide +kernel
theorem dX7_run_38 : decode cX7_run 38 = .ok (.putfield 93, 3) := by decide +kernel
theorem dX7_run_41 : decode cX7_run 41 = .ok (.aload_n 0, 1) := by decide +kernel
theorem dX7_run_42 : decode cX7_run 42 = .ok (.iconst 0, 1) := by decide +kernel
theorem dX7_run_43 : decode cX7_run 43 = .ok (.putfield 97, 3) := by decide +kernel
theorem dX7_run_46 : decode cX7_run 46 = .ok (.iconst 0, 1) := by decide +kernel
theorem dX7_run_47 : decode cX7_run 47 = .ok (.istore_n 3, 1) := by decide +kernel
theorem dX7_run_48 : decode cX7_run 48 = .ok (.iload_n 3, 1) := by decide +kernel
theorem dX7_run_49 : decode cX7_run 49 = .ok (.iload_n 2, 1) := by decide +kernel
theorem dX7_run_50 : decode cX7_run 50 = .ok (.if_icmp .ge 23, 3) := by decide +kernel
theorem dX7_run_53 : decode cX7_run 53 = .ok (.aload_n 0, 1) := by decide +kernel
theorem dX7_run_54 : decode cX7_run 54 = .ok (.getfield 47, 3) := by decide +kernel
theorem dX7_run_57 : decode cX7_run 57 = .ok (.invokevirtual 100, 3) := by decide +kernel
theorem dX7_run_60 : decode cX7_run 60 = .ok (.ifCond .le 13, 3) := by decide +kernel
theorem dX7_run_63 : decode cX7_run 63 = .ok (.aload_n 0, 1) := by decide +kernel
theorem dX7_run_64 : decode cX7_run 64 = .ok (.invokevirtual 101, 3) := by decide +kernel
theorem dX7_run_67 : decode cX7_run 67 = .ok (.iinc 3 1, 3) := by decide +kernel
theorem dX7_run_70 : decode cX7_run 70 = .ok (.goto (-22), 3) := by decide +kernel
theorem dX7_run_73 : decode cX7_run 73 = .ok (.aload_n 0, 1) := by decide +kernel
theorem dX7_run_74 : decode cX7_run 74 = .ok (.iload_n 3, 1) := by decide +kernel
theorem dX7_run_75 : decode cX7_run 75 = .ok (.putfield 104, 3) := by decide +kernel
theorem dX7_run_78 : decode cX7_run 78 = .ok (.aload_n 0, 1) := by decide +kernel
theorem dX7_run_79 : decode cX7_run 79 = .ok (.getfield 47, 3) := by decide +kernel
theorem dX7_run_82 : decode cX7_run 82 = .ok (.invokevirtual 100, 3) := by decide +kernel
theorem dX7_run_85 : decode cX7_run 85 = .ok (.ifCond .ne 8, 3) := by decide +kernel
theorem dX7_run_88 : decode cX7_run 88 = .ok (.aload_n 0, 1) := by decide +kernel
theorem dX7_run_89 : decode cX7_run 89 = .ok (.getfield 93, 3) := by decide +kernel
theorem dX7_run_92 : decode cX7_run 92 = .ok (.ireturn, 1) := by decide +kernel
theorem dX7_run_93 : decode cX7_run 93 = .ok (.aload_n 0, 1) := by decide +kernel
theorem dX7_run_94 : decode cX7_run 94 = .ok (.getfield 47, 3) := by decide +kernel
theorem dX7_run_97 : decode cX7_run 97 = .ok (.iconst 0, 1) := by decide +kernel
theorem dX7_run_98 : decode cX7_run 98 = .ok (.invokevirtual 107, 3) := by decide +kernel
theorem dX7_run_101 : decode cX7_run 101 = .ok (.bipush 10, 2) := by decide +kernel
theorem dX7_run_103 : decode cX7_run 103 = .ok (.ireturn, 1) := by decide +kernel
theorem dX7_interrupt_0 : decode cX7_interrupt 0 = .ok (.aload_n 0, 1) := by decide +kernel
theorem dX7_interrupt_1 : decode cX7_interrupt 1 = .ok (.getfield 110, 3) := by decide +kernel
theorem dX7_interrupt_4 : decode cX7_interrupt 4 = .ok (.ifCond .eq 5, 3) := by decide +kernel
theorem dX7_interrupt_7 : decode cX7_interrupt 7 = .ok (.iconst 0, 1) := by decide +kernel
theorem dX7_interrupt_8 : decode cX7_interrupt 8 = .ok (.ireturn, 1) := by decide +kernel
theorem dX7_interrupt_9 : decode cX7_interrupt 9 = .ok (.aload_n 0, 1) := by decide +kernel
theorem dX7_interrupt_10 : decode cX7_interrupt 10 = .ok (.iconst 1, 1) := by decide +kernel
theorem dX7_interrupt_11 : decode cX7_interrupt 11 = .ok (.putfield 110, 3) := by decide +kernel
theorem dX7_interrupt_14 : decode cX7_interrupt 14 = .ok (.iconst 1, 1) := by decide +kernel
theorem dX7_interrupt_15 : decode cX7_interrupt 15 = .ok (.ireturn, 1) := by decide +kernel
theorem dX7_size_0 : decode cX7_size 0 = .ok (.aload_n 0, 1) := by decide +kernel
theorem dX7_size_1 : decode cX7_size 1 = .ok (.getfield 27, 3) := by decide +kernel
theorem dX7_size_4 : decode cX7_size 4 = .ok (.invokevirtual 82, 3) := by decide +kernel
theorem dX7_size_7 : decode cX7_size 7 = .ok (.ireturn, 1) := by decide +kernel
theorem dJ7_fill_53178_0 : decode cJ7_fill_53178 0 = .ok (.iconst 0, 1) := by decide +kernel
theorem dJ7_fill_53178_1 : decode cJ7_fill_53178 1 = .ok (.istore_n 2, 1) := by decide +kernel
theorem dJ7_fill_53178_2 : decode cJ7_fill_53178 2 = .ok (.aload_n 0, 1) := by decide +kernel
theorem dJ7_fill_53178_3 : decode cJ7_fill_53178 3 = .ok (.arraylength, 1) := by decide +kernel
theorem dJ7_fill_53178_4 : decode cJ7_fill_53178 4 = .ok (.istore_n 3, 1) := by decide +kernel
theorem dJ7_fill_53178_5 : decode cJ7_fill_53178 5 = .ok (.iload_n 2, 1) := by decide +kernel
theorem dJ7_fill_53178_6 : decode cJ7_fill_53178 6 = .ok (.iload_n 3, 1) := by decide +kernel
theorem dJ7_fill_53178_7 : decode cJ7_fill_53178 7 = .ok (.if_icmp .ge 13, 3) := by decide +kernel
theorem dJ7_fill_53178_10 : decode cJ7_fill_53178 10 = .ok (.aload_n 0, 1) := by decide +kernel
theorem dJ7_fill_53178_11 : decode cJ7_fill_53178 11 = .ok (.iload_n 2, 1) := by decide +kernel
theorem dJ7_fill_53178_12 : decode cJ7_fill_53178 12 = .ok (.iload_n 1, 1) := by decide +kernel
theorem dJ7_fill_53178_13 : decode cJ7_fill_53178 13 = .ok (.iastore, 1) := by decide +kernel
theorem dJ7_fill_53178_14 : decode cJ7_fill_53178 14 = .ok (.iinc 2 1, 3) := by decide +kernel
theorem dJ7_fill_53178_17 : decode cJ7_fill_53178 17 = .ok (.goto (-12), 3) := by decide +kernel
theorem dJ7_fill_53178_20 : decode cJ7_fill_53178 20 = .ok (.return_, 1) := by decide +kernel
theorem dX1_wipe_0 : decode cX1_wipe 0 = .ok (.aload_n 0, 1) := by decide +kernel
theorem dX1_wipe_1 : decode cX1_wipe 1 = .ok (.getfield 9, 3) := by decide +kernel
theorem dX1_wipe_4 : decode cX1_wipe 4 = .ok (.iconst (-1), 1) := by decide +kernel
theorem dX1_wipe_5 : decode cX1_wipe 5 = .ok (.invokestatic 15, 3) := by decide +kernel
theorem dX1_wipe_8 : decode cX1_wipe 8 = .ok (.return_, 1) := by decide +kernel
theorem dX5_wipe_0 : decode cX5_wipe 0 = .ok (.aload_n 0, 1) := by decide +kernel
theorem dX5_wipe_1 : decode cX5_wipe 1 = .ok (.iconst 0, 1) := by decide +kernel
theorem dX5_wipe_2 : decode cX5_wipe 2 = .ok (.putfield 22, 3) := by decide +kernel
theorem dX5_wipe_5 : decode cX5_wipe 5 = .ok (.aload_n 0, 1) := by decide +kernel
theorem dX5_wipe_6 : decode cX5_wipe 6 = .ok (.iconst (-1), 1) := by decide +kernel
theorem dX5_wipe_7 : decode cX5_wipe 7 = .ok (.putfield 18, 3) := by decide +kernel
theorem dX5_wipe_10 : decode cX5_wipe 10 = .ok (.aload_n 0, 1) := by decide +kernel
theorem dX5_wipe_11 : decode cX5_wipe 11 = .ok (.iconst 0, 1) := by decide +kernel
theorem dX5_wipe_12 : decode cX5_wipe 12 = .ok (.putfield 29, 3) := by decide +kernel
theorem dX5_wipe_15 : decode cX5_wipe 15 = .ok (.aload_n 0, 1) := by decide +kernel
theorem dX5_wipe_16 : decode cX5_wipe 16 = .ok (.iconst 0, 1) := by decide +kernel
theorem dX5_wipe_17 : decode cX5_wipe 17 = .ok (.putfield 36, 3) := by decide +kernel
theorem dX5_wipe_20 : decode cX5_wipe 20 = .ok (.aload_n 0, 1) := by decide +kernel
theorem dX5_wipe_21 : decode cX5_wipe 21 = .ok (.iconst 0, 1) := by decide +kernel
theorem dX5_wipe_22 : decode cX5_wipe 22 = .ok (.putfield 25, 3) := by decide +kernel
theorem dX5_wipe_25 : decode cX5_wipe 25 = .ok (.aload_n 0, 1) := by decide +kernel
theorem dX5_wipe_26 : decode cX5_wipe 26 = .ok (.getfield 12, 3) := by decide +kernel
theorem dX5_wipe_29 : decode cX5_wipe 29 = .ok (.aload_n 0, 1) := by decide +kernel
theorem dX5_wipe_30 : decode cX5_wipe 30 = .ok (.getfield 12, 3) := by decide +kernel
theorem dX5_wipe_33 : decode cX5_wipe 33 = .ok (.invokevirtual 32, 3) := by decide +kernel
theorem dX5_wipe_36 : decode cX5_wipe 36 = .ok (.invokevirtual 43, 3) := by decide +kernel
theorem dX5_wipe_39 : decode cX5_wipe 39 = .ok (.return_, 1) := by decide +kernel
def fX7_operate_0_124 (tf : Nat → Int32) (z2 : Int32) (S : St) : Option (Int32 × St) :=
    bnd (fX2_numberUnder_5 z2 S) fun r1 S1 =>
    bnd (fX7_begin_0 r1 (3 : Int32) S1) fun r2 S2 =>
    some (r2, S2)
def fX7_operate_0 (tf : Nat → Int32) (p1 : Int32) (S : St) : Option (Int32 × St) :=
  if (S.1 0 7) = 0 then
    bnd (fX7_misfit_0 tf p1 S) fun r2 S2 =>
    if r2 = 0 then
      if p1 = 16 then
        bnd (fX7_execute_0 S2) fun r5 S5 =>
        some (r5, S5)
      else
        if p1 = 17 then
          bnd (fX7_beginIf_0 S2) fun r7 S7 =>
          some (r7, S7)
        else
          if p1 = 18 then
            bnd (fX2_numberUnder_5 (2 : Int32) S2) fun r9 S9 =>
            if r9 = (1 : Int32) then
              fX7_operate_0_124 tf (1 : Int32) S9
            else
              fX7_operate_0_124 tf (0 : Int32) S9
          else
            if p1 = 19 then
              bnd (fX2_numberUnder_5 (1 : Int32) S2) fun r12 S12 =>
              bnd (fX7_repeat_0 r12 S12) fun r13 S13 =>
              some (r13, S13)
            else
              if p1 = 20 then
                bnd (fX2_numberUnder_5 (3 : Int32) S2) fun r15 S15 =>
                bnd (fX2_numberUnder_5 (2 : Int32) S15) fun r16 S16 =>
                bnd (fX2_numberUnder_5 (1 : Int32) S16) fun r17 S17 =>
                bnd (fX7_countThrough_0 r15 r16 r17 S17) fun r18 S18 =>
                some (r18, S18)
              else
                if p1 = 21 then
                  bnd (fX7_beginLoop_0 (1 : Int32) (0 : Int32) (0 : Int32) (0 : Int32) (1 : Int32) S2) fun r20 S20 =>
                  some (r20, S20)
                else
                  if p1 = 22 then
                    bnd (fX7_exitLoop_0 S2) fun r22 S22 =>
                    some (r22, S22)
                  else
                    if p1 = 23 then
                      bnd (fX7_stopBy_0 (99 : Int32) S2) fun _ S24 =>
                      some ((0 : Int32), S24)
                    else
                      if p1 = 24 then
                        bnd (fX7_guard_0 S2) fun r26 S26 =>
                        some (r26, S26)
                      else
                        if p1 = 25 then
                          bnd (fX7_setHandler_0 S2) fun r28 S28 =>
                          some (r28, S28)
                        else
                          if p1 = 26 then
                            bnd (fX2_numberUnder_5 (0 : Int32) S2) fun r30 S30 =>
                            bnd (fX7_raise_0 r30 S30) fun r31 S31 =>
                            some (r31, S31)
                          else
                            if p1 = 27 then
                              bnd (fX2_numberUnder_5 (0 : Int32) S2) fun r33 S33 =>
                              bnd (fX7_tell_0 r33 S33) fun r34 S34 =>
                              some (r34, S34)
                            else
                              bnd (fX3_operate_24 p1 S2) fun r35 S35 =>
                              some (r35, S35)
    else
      some (r2, S2)
  else
    stp (si S 0 7 (0 : Int32)) fun S36 =>
    some ((11 : Int32), S36)
def fX7_goOn_0_90 (tf : Nat → Int32) (S : St) : Option (Int32 × St) :=
    some (0, S)
def fX7_goOn_0 (tf : Nat → Int32) (S : St) : Option (Int32 × St) :=
  bnd (fX0_topSubject_13 S) fun r1 S1 =>
  bnd (fX0_topPlace_13 S1) fun r2 S2 =>
  bnd (fX4_length_1 r1 S2) fun r3 S3 =>
  if r2 < r3 then
    bnd (fX0_goBy_13 S3) fun _ S5 =>
    bnd (fX4_kindAt_1 r1 r2 S5) fun r6 S6 =>
    bnd (fX4_numberAt_1 r1 r2 S6) fun r7 S7 =>
    if r6 = (5 : Int32) then
      bnd (fX7_operate_0 tf r7 S7) fun r9 S9 =>
      if r9 = 0 then
        fX7_goOn_0_90 tf S9
      else
        bnd (fX7_arise_0 r9 r7 S9) fun _ S11 =>
        fX7_goOn_0_90 tf S11
    else
      bnd (fX2_put_5 r6 r7 S7) fun r12 S12 =>
      if r12 = 0 then
        bnd (fX7_arise_0 (2 : Int32) (-1 : Int32) S12) fun _ S14 =>
        some (0, S14)
      else
        some (0, S12)
  else
    bnd (fX0_takeTop_13 S3) fun _ S15 =>
    some (0, S15)
def fX7_step_0_43 (tf : Nat → Int32) (S : St) : Option (Int32 × St) :=
    bnd (fX7_turn_0 S) fun _ S1 =>
    some (0, S1)
def fX7_step_0 (tf : Nat → Int32) (S : St) : Option (Int32 × St) :=
  bnd (fX0_topSort_13 S) fun r1 S1 =>
  if r1 = 0 then
    bnd (fX7_goOn_0 tf S1) fun _ S3 =>
    some (0, S3)
  else
    if r1 = 1 then
      fX7_step_0_43 tf S1
    else
      if r1 = 2 then
        fX7_step_0_43 tf S1
      else
        if r1 = 3 then
          bnd (fX7_endStopped_0 S1) fun _ S7 =>
          some (0, S7)
        else
          bnd (fX0_takeTop_13 S1) fun _ S8 =>
          some (0, S8)
def fX7_run_0_25 (tf : Nat → Int32) (S : St) : Option (Int32 × St) :=
    some ((-2 : Int32), S)
def fX7_run_0_73 (tf : Nat → Int32) (q3 : Int32) (S : St) : Option (Int32 × St) :=
    stp (si S 0 9 q3) fun S1 =>
    bnd (fX0_count_13 S1) fun r2 S2 =>
    if r2 = 0 then
      some (S2.1 0 8, S2)
    else
      bnd (fX0_cutTo_13 (0 : Int32) S2) fun _ S4 =>
      some ((10 : Int32), S4)
def fX7_run_0_48 (tf : Nat → Int32) : Nat → Int32 → Int32 → St → Option (Int32 × St)
  | 0, _, _, _ => none
  | n + 1, q2, q3, S =>
    if q2 ≤ q3 then
      fX7_run_0_73 tf q3 S
    else
      bnd (fX0_count_13 S) fun r2 S2 =>
      if r2 ≤ 0 then
        fX7_run_0_73 tf q3 S2
      else
        bnd (fX7_step_0 tf S2) fun _ S4 =>
        stv (q3 + 1) fun y5 =>
        fX7_run_0_48 tf n q2 y5 S4
def fX7_run_0 (tf : Nat → Int32) (p1 : Int32) (p2 : Int32) (S : St) : Option (Int32 × St) :=
  bnd (fX4_has_1 p1 S) fun r1 S1 =>
  if r1 = 0 then
    some ((-1 : Int32), S1)
  else
    if p2 < (1 : Int32) then
      fX7_run_0_25 tf S1
    else
      if p2 ≤ (5000 : Int32) then
        bnd (fX0_startWith_13 p1 S1) fun _ S5 =>
        stp (si S5 0 8 (0 : Int32)) fun S6 =>
        stp (si S6 0 10 (0 : Int32)) fun S7 =>
        stv (0 : Int32) fun y8 =>
        fX7_run_0_48 tf 6000 p2 y8 S7
      else
        fX7_run_0_25 tf S1
def fX7_interrupt_0 (S : St) : Option (Int32 × St) :=
  if (S.1 0 7) = 0 then
    stp (si S 0 7 (1 : Int32)) fun S2 =>
    some ((1 : Int32), S2)
  else
    some ((0 : Int32), S)
def fX7_size_0 (S : St) : Option (Int32 × St) :=
  bnd (fX2_count_5 S) fun r1 S1 =>
  some (r1, S1)
def fJ7_fill_53178_12_5 : Nat → Int32 → Int32 → Int32 → St → Option (Int32 × St)
  | 0, _, _, _, _ => none
  | n + 1, q1, q2, q3, S =>
    if q3 ≤ q2 then
      some (0, S)
    else
      if vq q2 12 then
      stp (si S 12 q2.toNatClampNeg q1) fun S2 =>
      stv (q2 + 1) fun y3 =>
      fJ7_fill_53178_12_5 n q1 y3 q3 S2
      else none
def fJ7_fill_53178_12 (p2 : Int32) (S : St) : Option (Int32 × St) :=
  stv (0 : Int32) fun y1 =>
  stv (12 : Int32) fun y2 =>
  fJ7_fill_53178_12_5 500 p2 y1 y2 S
def fX1_wipe_11 (S : St) : Option (Int32 × St) :=
  bnd (fJ7_fill_53178_12 (-1 : Int32) S) fun _ S1 =>
  some (0, S1)
def fX2_takeOff_21 (p1 : Int32) (S : St) : Option (Int32 × St) :=
  if p1 < 0 then
    some (0, S)
  else
    if (S.1 21 2) < p1 then
      some (0, S)
    else
      stp (si S 21 2 ((S.1 21 2) - p1)) fun S3 =>
      some (0, S3)
def fX5_wipe_20 (S : St) : Option (Int32 × St) :=
  stp (si S 20 1 (0 : Int32)) fun S1 =>
  stp (si S1 20 2 (-1 : Int32)) fun S2 =>
  stp (si S2 20 3 (0 : Int32)) fun S3 =>
  stp (si S3 20 4 (0 : Int32)) fun S4 =>
  stp (si S4 20 5 (0 : Int32)) fun S5 =>
  bnd (fX2_count_21 S5) fun r6 S6 =>
  bnd (fX2_takeOff_21 r6 S6) fun _ S7 =>
  some (0, S7)
set_option maxRecDepth 100000 in
set_option maxHeartbeats 4000000 in
theorem rX7_operate_0_124 {p : Program} {l : Launch} {e : Env} {s : State} {m : MethodId} {args : Array Value} {below : List Frame} {meth : Method} {c : Code} {D : va_G} {a : Nat → Nat} {cI cJ : ClassId} {tk : Nat} {tf : Nat → Int32} (C : Cx p s m args meth c RX7 cX7_operate 3 D cI cJ tk tf (AR a 25 s.heap.size)) (hr : meth.sig.returnType = (some .int)) : ∀ (z2 : Int32) (S : St) (x : Int32 × St) (H : Heap) (locs : List Loc) (ls : Array Slot), fX7_operate_0_124 tf z2 S = some x → Wd D (wE a cI cJ) (AR a 25 s.heap.size) s S H locs → lv_has ls 3 [] → W p l e { frames := 3, cells := 0, slots := 0, locals := 71 } s m args below meth c H locs 0 0 (MQ below (Qi D (wE a cI cJ) (AR a 25 s.heap.size) x) args s 0 0 (AR a 25 s.heap.size)) (F0 m 124 ls [.int z2, .ref (a 5), .ref (a 0)]) := by
  intro z2 S x H locs ls hf G hl
  unfold fX7_operate_0_124 at hf
  obtain ⟨r1, S1, eS1, hf⟩ := bnd_e hf
  refine r_cali (As := [.int z2]) (na := 1) C adE G (mX2_numberUnder_5 l D a cI cJ tk tf z2 S _ eS1) k_378 k_379 k_380 k_62 k_381 (q0 := 5) rfl (ci := 2) rfl (by decide +kernel) ⟨Nat.le_of_ble_eq_true rfl, Nat.le_of_ble_eq_true rfl⟩ rfl rfl ⟨Nat.zero_le _, Nat.zero_le _⟩ rfl hl.1 rfl (Nat.le_of_ble_eq_true rfl) dX7_operate_124 (fun H locs G => ?_)
  refine lv_iconst (v := 3) C.1 C.2.1 dX7_operate_127 (by decide) ?_
  obtain ⟨r2, S2, eS2, hf⟩ := bnd_e hf
  refine r_cali (As := [.int r1, .int (3 : Int32)]) (na := 2) C adE G (mX7_begin_0 l D a cI cJ tk tf r1 (3 : Int32) S1 _ eS2) k_382 k_384 k_6 k_59 k_385 (q0 := 0) rfl (ci := 7) rfl (by decide +kernel) ⟨Nat.le_of_ble_eq_true rfl, Nat.le_of_ble_eq_true rfl⟩ rfl rfl ⟨Nat.zero_le _, Nat.zero_le _⟩ rfl hl.1 rfl (Nat.le_of_ble_eq_true rfl) dX7_operate_128 (fun H locs G => ?_)
  exact r_iret C hr G hf dX7_operate_131
set_option maxRecDepth 100000 in
set_option maxHeartbeats 4000000 in
theorem mX7_operate_0 (l : Launch) (D : va_G) (a : Nat → Nat) (cI cJ : ClassId) (tk : Nat) (tf : Nat → Int32) (p1 : Int32) (S : St) (x : Int32 × St) (hf : fX7_operate_0 tf p1 S = some x) : Mi l D (wE a cI cJ) a 25 cI cJ tk tf yX7_operate cX7_operate 3 (some .int) { frames := 3, cells := 0, slots := 0, locals := 71 } [.ref (a 0), .int p1] S x := by
  refine opn_i (by decide +kernel) (Nat.le_of_ble_eq_true rfl) (fun p e s m below meth c C hr G ls hl => ?_)
  replace hl : lv_has ls 3 [(0, .ref (a 0)), (1, .int p1)] := hl
  unfold fX7_operate_0 at hf
  refine lv_aload_n C.1 C.2.1 dX7_operate_0 rfl (lv_at hl 0 rfl) ?_
  refine gE_0_7 C G k_228 dX7_operate_1 ?_
  refine lv_if_eq (tgt := 15) C.1 C.2.1 dX7_operate_4 (by decide) (fun c1 => ?_) (fun c1 => ?_)
  · replace hf := ifp c1 hf
    refine lv_aload_n C.1 C.2.1 dX7_operate_15 rfl (lv_at hl 0 rfl) ?_
    refine lv_iload_n C.1 C.2.1 dX7_operate_16 rfl (lv_at hl 1 rfl) ?_
    obtain ⟨r2, S2, eS2, hf⟩ := bnd_e hf
    refine r_cali (As := [.int p1]) (na := 1) C adE G (mX7_misfit_0 l D a cI cJ tk tf p1 S _ eS2) k_364 k_366 k_4 k_59 k_367 (q0 := 0) rfl (ci := 7) rfl (by decide +kernel) ⟨Nat.le_of_ble_eq_true rfl, Nat.le_of_ble_eq_true rfl⟩ rfl rfl ⟨Nat.zero_le _, Nat.zero_le _⟩ rfl hl.1 rfl (Nat.le_of_ble_eq_true rfl) dX7_operate_17 (fun H locs G => ?_)
    refine lv_istore_n (lv' := [(2, .int r2), (0, .ref (a 0)), (1, .int p1)]) C.1 C.2.1 dX7_operate_20 rfl hl (by decide) rfl (fun ls hl => ?_)
    refine lv_iload_n C.1 C.2.1 dX7_operate_21 rfl (lv_at hl 0 rfl) ?_
    refine lv_if_eq (tgt := 27) C.1 C.2.1 dX7_operate_22 (by decide) (fun c3 => ?_) (fun c3 => ?_)
    · replace hf := ifp c3 hf
      refine lv_iload_n C.1 C.2.1 dX7_operate_27 rfl (lv_at hl 2 rfl) ?_
      by_cases c4 : p1 = (16 : Int32)
      · replace hf := ifp c4 hf
        refine lv_tableIn (tgt := 92) C.1 C.2.1 dX7_operate_28 (by rw [c4]; decide) (by rw [c4]; decide) (by rw [c4]; rfl) (by decide) ?_
        refine lv_aload_n C.1 C.2.1 dX7_operate_92 rfl (lv_at hl 1 rfl) ?_
        obtain ⟨r5, S5, eS5, hf⟩ := bnd_e hf
        refine r_cali (As := []) (na := 0) C adE G (mX7_execute_0 l D a cI cJ tk tf S2 _ eS5) k_374 k_376 k_5 k_59 k_377 (q0 := 0) rfl (ci := 7) rfl (by decide +kernel) ⟨Nat.le_of_ble_eq_true rfl, Nat.le_of_ble_eq_true rfl⟩ rfl rfl ⟨Nat.zero_le _, Nat.zero_le _⟩ rfl hl.1 rfl (Nat.le_of_ble_eq_true rfl) dX7_operate_93 (fun H locs G => ?_)
        exact r_iret C hr G hf dX7_operate_96
      · replace hf := ifq c4 hf
        by_cases c6 : p1 = (17 : Int32)
        · replace hf := ifp c6 hf
          refine lv_tableIn (tgt := 97) C.1 C.2.1 dX7_operate_28 (by rw [c6]; decide) (by rw [c6]; decide) (by rw [c6]; rfl) (by decide) ?_
          refine lv_aload_n C.1 C.2.1 dX7_operate_97 rfl (lv_at hl 1 rfl) ?_
          obtain ⟨r7, S7, eS7, hf⟩ := bnd_e hf
          refine r_cali (As := []) (na := 0) C adE G (mX7_beginIf_0 l D a cI cJ tk tf S2 _ eS7) k_409 k_411 k_7 k_59 k_412 (q0 := 0) rfl (ci := 7) rfl (by decide +kernel) ⟨Nat.le_of_ble_eq_true rfl, Nat.le_of_ble_eq_true rfl⟩ rfl rfl ⟨Nat.zero_le _, Nat.zero_le _⟩ rfl hl.1 rfl (Nat.le_of_ble_eq_true rfl) dX7_operate_98 (fun H locs G => ?_)
          exact r_iret C hr G hf dX7_operate_101
        · replace hf := ifq c6 hf
          by_cases c8 : p1 = (18 : Int32)
          · replace hf := ifp c8 hf
            refine lv_tableIn (tgt := 102) C.1 C.2.1 dX7_operate_28 (by rw [c8]; decide) (by rw [c8]; decide) (by rw [c8]; rfl) (by decide) ?_
            refine lv_aload_n C.1 C.2.1 dX7_operate_102 rfl (lv_at hl 1 rfl) ?_
            refine lv_aload_n C.1 C.2.1 dX7_operate_103 rfl (lv_at hl 1 rfl) ?_
            refine gE_0_2 C G k_223 dX7_operate_104 ?_
            refine lv_aload_n C.1 C.2.1 dX7_operate_107 rfl (lv_at hl 1 rfl) ?_
            refine gE_0_2 C G k_223 dX7_operate_108 ?_
            refine lv_iconst (v := 2) C.1 C.2.1 dX7_operate_111 (by decide) ?_
            obtain ⟨r9, S9, eS9, hf⟩ := bnd_e hf
            refine r_cali (As := [.int (2 : Int32)]) (na := 1) C adE G (mX2_numberUnder_5 l D a cI cJ tk tf (2 : Int32) S2 _ eS9) k_378 k_379 k_380 k_62 k_381 (q0 := 5) rfl (ci := 2) rfl (by decide +kernel) ⟨Nat.le_of_ble_eq_true rfl, Nat.le_of_ble_eq_true rfl⟩ rfl rfl ⟨Nat.zero_le _, Nat.zero_le _⟩ rfl hl.1 rfl (Nat.le_of_ble_eq_true rfl) dX7_operate_112 (fun H locs G => ?_)
            refine lv_iconst (v := 1) C.1 C.2.1 dX7_operate_115 (by decide) ?_
            refine lv_icmp_ne (tgt := 123) C.1 C.2.1 dX7_operate_116 (by decide) (fun c10 => ?_) (fun c10 => ?_)
            · replace hf := ifq c10 hf
              refine lv_iconst (v := 0) C.1 C.2.1 dX7_operate_123 (by decide) ?_
              exact rX7_operate_0_124 C hr (0 : Int32) S9 _ _ _ _ hf G (lv_sub hl [] rfl)
            · replace hf := ifp c10 hf
              refine lv_iconst (v := 1) C.1 C.2.1 dX7_operate_119 (by decide) ?_
              refine lv_goto (tgt := 124) C.1 C.2.1 dX7_operate_120 (by decide) ?_
              exact rX7_operate_0_124 C hr (1 : Int32) S9 _ _ _ _ hf G (lv_sub hl [] rfl)
          · replace hf := ifq c8 hf
            by_cases c11 : p1 = (19 : Int32)
            · replace hf := ifp c11 hf
              refine lv_tableIn (tgt := 132) C.1 C.2.1 dX7_operate_28 (by rw [c11]; decide) (by rw [c11]; decide) (by rw [c11]; rfl) (by decide) ?_
              refine lv_aload_n C.1 C.2.1 dX7_operate_132 rfl (lv_at hl 1 rfl) ?_
              refine lv_aload_n C.1 C.2.1 dX7_operate_133 rfl (lv_at hl 1 rfl) ?_
              refine gE_0_2 C G k_223 dX7_operate_134 ?_
              refine lv_iconst (v := 1) C.1 C.2.1 dX7_operate_137 (by decide) ?_
              obtain ⟨r12, S12, eS12, hf⟩ := bnd_e hf
              refine r_cali (As := [.int (1 : Int32)]) (na := 1) C adE G (mX2_numberUnder_5 l D a cI cJ tk tf (1 : Int32) S2 _ eS12) k_378 k_379 k_380 k_62 k_381 (q0 := 5) rfl (ci := 2) rfl (by decide +kernel) ⟨Nat.le_of_ble_eq_true rfl, Nat.le_of_ble_eq_true rfl⟩ rfl rfl ⟨Nat.zero_le _, Nat.zero_le _⟩ rfl hl.1 rfl (Nat.le_of_ble_eq_true rfl) dX7_operate_138 (fun H locs G => ?_)
              obtain ⟨r13, S13, eS13, hf⟩ := bnd_e hf
              refine r_cali (As := [.int r12]) (na := 1) C adE G (mX7_repeat_0 l D a cI cJ tk tf r12 S12 _ eS13) k_413 k_415 k_8 k_59 k_416 (q0 := 0) rfl (ci := 7) rfl (by decide +kernel) ⟨Nat.le_of_ble_eq_true rfl, Nat.le_of_ble_eq_true rfl⟩ rfl rfl ⟨Nat.zero_le _, Nat.zero_le _⟩ rfl hl.1 rfl (Nat.le_of_ble_eq_true rfl) dX7_operate_141 (fun H locs G => ?_)
              exact r_iret C hr G hf dX7_operate_144
            · replace hf := ifq c11 hf
              by_cases c14 : p1 = (20 : Int32)
              · replace hf := ifp c14 hf
                refine lv_tableIn (tgt := 145) C.1 C.2.1 dX7_operate_28 (by rw [c14]; decide) (by rw [c14]; decide) (by rw [c14]; rfl) (by decide) ?_
                refine lv_aload_n C.1 C.2.1 dX7_operate_145 rfl (lv_at hl 1 rfl) ?_
                refine lv_aload_n C.1 C.2.1 dX7_operate_146 rfl (lv_at hl 1 rfl) ?_
                refine gE_0_2 C G k_223 dX7_operate_147 ?_
                refine lv_iconst (v := 3) C.1 C.2.1 dX7_operate_150 (by decide) ?_
                obtain ⟨r15, S15, eS15, hf⟩ := bnd_e hf
                refine r_cali (As := [.int (3 : Int32)]) (na := 1) C adE G (mX2_numberUnder_5 l D a cI cJ tk tf (3 : Int32) S2 _ eS15) k_378 k_379 k_380 k_62 k_381 (q0 := 5) rfl (ci := 2) rfl (by decide +kernel) ⟨Nat.le_of_ble_eq_true rfl, Nat.le_of_ble_eq_true rfl⟩ rfl rfl ⟨Nat.zero_le _, Nat.zero_le _⟩ rfl hl.1 rfl (Nat.le_of_ble_eq_true rfl) dX7_operate_151 (fun H locs G => ?_)
                refine lv_aload_n C.1 C.2.1 dX7_operate_154 rfl (lv_at hl 1 rfl) ?_
                refine gE_0_2 C G k_223 dX7_operate_155 ?_
                refine lv_iconst (v := 2) C.1 C.2.1 dX7_operate_158 (by decide) ?_
                obtain ⟨r16, S16, eS16, hf⟩ := bnd_e hf
                refine r_cali (As := [.int (2 : Int32)]) (na := 1) C adE G (mX2_numberUnder_5 l D a cI cJ tk tf (2 : Int32) S15 _ eS16) k_378 k_379 k_380 k_62 k_381 (q0 := 5) rfl (ci := 2) rfl (by decide +kernel) ⟨Nat.le_of_ble_eq_true rfl, Nat.le_of_ble_eq_true rfl⟩ rfl rfl ⟨Nat.zero_le _, Nat.zero_le _⟩ rfl hl.1 rfl (Nat.le_of_ble_eq_true rfl) dX7_operate_159 (fun H locs G => ?_)
                refine lv_aload_n C.1 C.2.1 dX7_operate_162 rfl (lv_at hl 1 rfl) ?_
                refine gE_0_2 C G k_223 dX7_operate_163 ?_
                refine lv_iconst (v := 1) C.1 C.2.1 dX7_operate_166 (by decide) ?_
                obtain ⟨r17, S17, eS17, hf⟩ := bnd_e hf
                refine r_cali (As := [.int (1 : Int32)]) (na := 1) C adE G (mX2_numberUnder_5 l D a cI cJ tk tf (1 : Int32) S16 _ eS17) k_378 k_379 k_380 k_62 k_381 (q0 := 5) rfl (ci := 2) rfl (by decide +kernel) ⟨Nat.le_of_ble_eq_true rfl, Nat.le_of_ble_eq_true rfl⟩ rfl rfl ⟨Nat.zero_le _, Nat.zero_le _⟩ rfl hl.1 rfl (Nat.le_of_ble_eq_true rfl) dX7_operate_167 (fun H locs G => ?_)
                obtain ⟨r18, S18, eS18, hf⟩ := bnd_e hf
                refine r_cali (As := [.int r15, .int r16, .int r17]) (na := 3) C adE G (mX7_countThrough_0 l D a cI cJ tk tf r15 r16 r17 S17 _ eS18) k_425 k_427 k_10 k_59 k_428 (q0 := 0) rfl (ci := 7) rfl (by decide +kernel) ⟨Nat.le_of_ble_eq_true rfl, Nat.le_of_ble_eq_true rfl⟩ rfl rfl ⟨Nat.zero_le _, Nat.zero_le _⟩ rfl hl.1 rfl (Nat.le_of_ble_eq_true rfl) dX7_operate_170 (fun H locs G => ?_)
                exact r_iret C hr G hf dX7_operate_173
              · replace hf := ifq c14 hf
                by_cases c19 : p1 = (21 : Int32)
                · replace hf := ifp c19 hf
                  refine lv_tableIn (tgt := 174) C.1 C.2.1 dX7_operate_28 (by rw [c19]; decide) (by rw [c19]; decide) (by rw [c19]; rfl) (by decide) ?_
                  refine lv_aload_n C.1 C.2.1 dX7_operate_174 rfl (lv_at hl 1 rfl) ?_
                  refine lv_iconst (v := 1) C.1 C.2.1 dX7_operate_175 (by decide) ?_
                  refine lv_iconst (v := 0) C.1 C.2.1 dX7_operate_176 (by decide) ?_
                  refine lv_iconst (v := 0) C.1 C.2.1 dX7_operate_177 (by decide) ?_
                  refine lv_iconst (v := 0) C.1 C.2.1 dX7_operate_178 (by decide) ?_
                  refine lv_iconst (v := 1) C.1 C.2.1 dX7_operate_179 (by decide) ?_
                  obtain ⟨r20, S20, eS20, hf⟩ := bnd_e hf
                  refine r_cali (As := [.int (1 : Int32), .int (0 : Int32), .int (0 : Int32), .int (0 : Int32), .int (1 : Int32)]) (na := 5) C adE G (mX7_beginLoop_0 l D a cI cJ tk tf (1 : Int32) (0 : Int32) (0 : Int32) (0 : Int32) (1 : Int32) S2 _ eS20) k_417 k_419 k_9 k_59 k_420 (q0 := 0) rfl (ci := 7) rfl (by decide +kernel) ⟨Nat.le_of_ble_eq_true rfl, Nat.le_of_ble_eq_true rfl⟩ rfl rfl ⟨Nat.zero_le _, Nat.zero_le _⟩ rfl hl.1 rfl (Nat.le_of_ble_eq_true rfl) dX7_operate_180 (fun H locs G => ?_)
                  exact r_iret C hr G hf dX7_operate_183
                · replace hf := ifq c19 hf
                  by_cases c21 : p1 = (22 : Int32)
                  · replace hf := ifp c21 hf
                    refine lv_tableIn (tgt := 184) C.1 C.2.1 dX7_operate_28 (by rw [c21]; decide) (by rw [c21]; decide) (by rw [c21]; rfl) (by decide) ?_
                    refine lv_aload_n C.1 C.2.1 dX7_operate_184 rfl (lv_at hl 1 rfl) ?_
                    obtain ⟨r22, S22, eS22, hf⟩ := bnd_e hf
                    refine r_cali (As := []) (na := 0) C adE G (mX7_exitLoop_0 l D a cI cJ tk tf S2 _ eS22) k_429 k_431 k_11 k_59 k_432 (q0 := 0) rfl (ci := 7) rfl (by decide +kernel) ⟨Nat.le_of_ble_eq_true rfl, Nat.le_of_ble_eq_true rfl⟩ rfl rfl ⟨Nat.zero_le _, Nat.zero_le _⟩ rfl hl.1 rfl (Nat.le_of_ble_eq_true rfl) dX7_operate_185 (fun H locs G => ?_)
                    exact r_iret C hr G hf dX7_operate_188
                  · replace hf := ifq c21 hf
                    by_cases c23 : p1 = (23 : Int32)
                    · replace hf := ifp c23 hf
                      refine lv_tableIn (tgt := 189) C.1 C.2.1 dX7_operate_28 (by rw [c23]; decide) (by rw [c23]; decide) (by rw [c23]; rfl) (by decide) ?_
                      refine lv_aload_n C.1 C.2.1 dX7_operate_189 rfl (lv_at hl 1 rfl) ?_
                      refine lv_bipush (v := 99) C.1 C.2.1 dX7_operate_190 (by decide) ?_
                      obtain ⟨r24, S24, eS24, hf⟩ := bnd_e hf
                      refine r_calv (As := [.int (99 : Int32)]) (na := 1) C adE G (mX7_stopBy_0 l D a cI cJ tk tf (99 : Int32) S2 _ eS24) k_441 k_443 k_12 k_59 k_444 (q0 := 0) rfl (ci := 7) rfl (by decide +kernel) ⟨Nat.le_of_ble_eq_true rfl, Nat.le_of_ble_eq_true rfl⟩ rfl rfl ⟨Nat.zero_le _, Nat.zero_le _⟩ rfl hl.1 rfl (Nat.le_of_ble_eq_true rfl) dX7_operate_192 (fun H locs G => ?_)
                      refine lv_iconst (v := 0) C.1 C.2.1 dX7_operate_195 (by decide) ?_
                      exact r_iret C hr G hf dX7_operate_196
                    · replace hf := ifq c23 hf
                      by_cases c25 : p1 = (24 : Int32)
                      · replace hf := ifp c25 hf
                        refine lv_tableIn (tgt := 197) C.1 C.2.1 dX7_operate_28 (by rw [c25]; decide) (by rw [c25]; decide) (by rw [c25]; rfl) (by decide) ?_
                        refine lv_aload_n C.1 C.2.1 dX7_operate_197 rfl (lv_at hl 1 rfl) ?_
                        obtain ⟨r26, S26, eS26, hf⟩ := bnd_e hf
                        refine r_cali (As := []) (na := 0) C adE G (mX7_guard_0 l D a cI cJ tk tf S2 _ eS26) k_453 k_455 k_13 k_59 k_456 (q0 := 0) rfl (ci := 7) rfl (by decide +kernel) ⟨Nat.le_of_ble_eq_true rfl, Nat.le_of_ble_eq_true rfl⟩ rfl rfl ⟨Nat.zero_le _, Nat.zero_le _⟩ rfl hl.1 rfl (Nat.le_of_ble_eq_true rfl) dX7_operate_198 (fun H locs G => ?_)
                        exact r_iret C hr G hf dX7_operate_201
                      · replace hf := ifq c25 hf
                        by_cases c27 : p1 = (25 : Int32)
                        · replace hf := ifp c27 hf
                          refine lv_tableIn (tgt := 202) C.1 C.2.1 dX7_operate_28 (by rw [c27]; decide) (by rw [c27]; decide) (by rw [c27]; rfl) (by decide) ?_
                          refine lv_aload_n C.1 C.2.1 dX7_operate_202 rfl (lv_at hl 1 rfl) ?_
                          obtain ⟨r28, S28, eS28, hf⟩ := bnd_e hf
                          refine r_cali (As := []) (na := 0) C adE G (mX7_setHandler_0 l D a cI cJ tk tf S2 _ eS28) k_457 k_459 k_14 k_59 k_460 (q0 := 0) rfl (ci := 7) rfl (by decide +kernel) ⟨Nat.le_of_ble_eq_true rfl, Nat.le_of_ble_eq_true rfl⟩ rfl rfl ⟨Nat.zero_le _, Nat.zero_le _⟩ rfl hl.1 rfl (Nat.le_of_ble_eq_true rfl) dX7_operate_203 (fun H locs G => ?_)
                          exact r_iret C hr G hf dX7_operate_206
                        · replace hf := ifq c27 hf
                          by_cases c29 : p1 = (26 : Int32)
                          · replace hf := ifp c29 hf
                            refine lv_tableIn (tgt := 207) C.1 C.2.1 dX7_operate_28 (by rw [c29]; decide) (by rw [c29]; decide) (by rw [c29]; rfl) (by decide) ?_
                            refine lv_aload_n C.1 C.2.1 dX7_operate_207 rfl (lv_at hl 1 rfl) ?_
                            refine lv_aload_n C.1 C.2.1 dX7_operate_208 rfl (lv_at hl 1 rfl) ?_
                            refine gE_0_2 C G k_223 dX7_operate_209 ?_
                            refine lv_iconst (v := 0) C.1 C.2.1 dX7_operate_212 (by decide) ?_
                            obtain ⟨r30, S30, eS30, hf⟩ := bnd_e hf
                            refine r_cali (As := [.int (0 : Int32)]) (na := 1) C adE G (mX2_numberUnder_5 l D a cI cJ tk tf (0 : Int32) S2 _ eS30) k_378 k_379 k_380 k_62 k_381 (q0 := 5) rfl (ci := 2) rfl (by decide +kernel) ⟨Nat.le_of_ble_eq_true rfl, Nat.le_of_ble_eq_true rfl⟩ rfl rfl ⟨Nat.zero_le _, Nat.zero_le _⟩ rfl hl.1 rfl (Nat.le_of_ble_eq_true rfl) dX7_operate_213 (fun H locs G => ?_)
                            obtain ⟨r31, S31, eS31, hf⟩ := bnd_e hf
                            refine r_cali (As := [.int r30]) (na := 1) C adE G (mX7_raise_0 l D a cI cJ tk tf r30 S30 _ eS31) k_470 k_472 k_15 k_59 k_473 (q0 := 0) rfl (ci := 7) rfl (by decide +kernel) ⟨Nat.le_of_ble_eq_true rfl, Nat.le_of_ble_eq_true rfl⟩ rfl rfl ⟨Nat.zero_le _, Nat.zero_le _⟩ rfl hl.1 rfl (Nat.le_of_ble_eq_true rfl) dX7_operate_216 (fun H locs G => ?_)
                            exact r_iret C hr G hf dX7_operate_219
                          · replace hf := ifq c29 hf
                            by_cases c32 : p1 = (27 : Int32)
                            · replace hf := ifp c32 hf
                              refine lv_tableIn (tgt := 220) C.1 C.2.1 dX7_operate_28 (by rw [c32]; decide) (by rw [c32]; decide) (by rw [c32]; rfl) (by decide) ?_
                              refine lv_aload_n C.1 C.2.1 dX7_operate_220 rfl (lv_at hl 1 rfl) ?_
                              refine lv_aload_n C.1 C.2.1 dX7_operate_221 rfl (lv_at hl 1 rfl) ?_
                              refine gE_0_2 C G k_223 dX7_operate_222 ?_
                              refine lv_iconst (v := 0) C.1 C.2.1 dX7_operate_225 (by decide) ?_
                              obtain ⟨r33, S33, eS33, hf⟩ := bnd_e hf
                              refine r_cali (As := [.int (0 : Int32)]) (na := 1) C adE G (mX2_numberUnder_5 l D a cI cJ tk tf (0 : Int32) S2 _ eS33) k_378 k_379 k_380 k_62 k_381 (q0 := 5) rfl (ci := 2) rfl (by decide +kernel) ⟨Nat.le_of_ble_eq_true rfl, Nat.le_of_ble_eq_true rfl⟩ rfl rfl ⟨Nat.zero_le _, Nat.zero_le _⟩ rfl hl.1 rfl (Nat.le_of_ble_eq_true rfl) dX7_operate_226 (fun H locs G => ?_)
                              obtain ⟨r34, S34, eS34, hf⟩ := bnd_e hf
                              refine r_cali (As := [.int r33]) (na := 1) C adE G (mX7_tell_0 l D a cI cJ tk tf r33 S33 _ eS34) k_474 k_476 k_16 k_59 k_477 (q0 := 0) rfl (ci := 7) rfl (by decide +kernel) ⟨Nat.le_of_ble_eq_true rfl, Nat.le_of_ble_eq_true rfl⟩ rfl rfl ⟨Nat.zero_le _, Nat.zero_le _⟩ rfl hl.1 rfl (Nat.le_of_ble_eq_true rfl) dX7_operate_229 (fun H locs G => ?_)
                              exact r_iret C hr G hf dX7_operate_232
                            · replace hf := ifq c32 hf
                              have nc4 : (p1).toInt ≠ 16 := nti c4
                              have nc6 : (p1).toInt ≠ 17 := nti c6
                              have nc8 : (p1).toInt ≠ 18 := nti c8
                              have nc11 : (p1).toInt ≠ 19 := nti c11
                              have nc14 : (p1).toInt ≠ 20 := nti c14
                              have nc19 : (p1).toInt ≠ 21 := nti c19
                              have nc21 : (p1).toInt ≠ 22 := nti c21
                              have nc23 : (p1).toInt ≠ 23 := nti c23
                              have nc25 : (p1).toInt ≠ 24 := nti c25
                              have nc27 : (p1).toInt ≠ 25 := nti c27
                              have nc29 : (p1).toInt ≠ 26 := nti c29
                              have nc32 : (p1).toInt ≠ 27 := nti c32
                              refine lv_tableOut (tgt := 233) C.1 C.2.1 dX7_operate_28 (by omega) (by decide) ?_
                              refine lv_aload_n C.1 C.2.1 dX7_operate_233 rfl (lv_at hl 1 rfl) ?_
                              refine gE_0_1 C G k_222 dX7_operate_234 ?_
                              refine lv_iload_n C.1 C.2.1 dX7_operate_237 rfl (lv_at hl 2 rfl) ?_
                              obtain ⟨r35, S35, eS35, hf⟩ := bnd_e hf
                              refine r_cali (As := [.int p1]) (na := 1) C adE G (mX3_operate_24 l D a cI cJ tk tf p1 S2 _ eS35) k_492 k_493 k_494 k_61 k_495 (q0 := 24) rfl (ci := 3) rfl (by decide +kernel) ⟨Nat.le_of_ble_eq_true rfl, Nat.le_of_ble_eq_true rfl⟩ rfl rfl ⟨Nat.zero_le _, Nat.zero_le _⟩ rfl hl.1 rfl (Nat.le_of_ble_eq_true rfl) dX7_operate_238 (fun H locs G => ?_)
                              exact r_iret C hr G hf dX7_operate_241
    · replace hf := ifq c3 hf
      refine lv_iload_n C.1 C.2.1 dX7_operate_25 rfl (lv_at hl 0 rfl) ?_
      exact r_iret C hr G hf dX7_operate_26
  · replace hf := ifq c1 hf
    refine lv_aload_n C.1 C.2.1 dX7_operate_7 rfl (lv_at hl 0 rfl) ?_
    refine lv_iconst (v := 0) C.1 C.2.1 dX7_operate_8 (by decide) ?_
    refine pE_0_7 C G (Or.inl rfl) k_228 dX7_operate_9 (fun H locs G => ?_)
    obtain ⟨S36, eS36, hf⟩ := stp_e hf
    rw [← eS36] at G
    clear eS36
    refine lv_bipush (v := 11) C.1 C.2.1 dX7_operate_12 (by decide) ?_
    exact r_iret C hr G hf dX7_operate_14
set_option maxRecDepth 100000 in
set_option maxHeartbeats 4000000 in
theorem rX7_goOn_0_90 {p : Program} {l : Launch} {e : Env} {s : State} {m : MethodId} {args : Array Value} {below : List Frame} {meth : Method} {c : Code} {D : va_G} {a : Nat → Nat} {cI cJ : ClassId} {tk : Nat} {tf : Nat → Int32} (C : Cx p s m args meth c RX7 cX7_goOn 6 D cI cJ tk tf (AR a 25 s.heap.size)) (hr : meth.sig.returnType = none) : ∀ (S : St) (x : Int32 × St) (H : Heap) (locs : List Loc) (ls : Array Slot), fX7_goOn_0_90 tf S = some x → Wd D (wE a cI cJ) (AR a 25 s.heap.size) s S H locs → lv_has ls 6 [] → W p l e { frames := 4, cells := 0, slots := 0, locals := 93 } s m args below meth c H locs 0 0 (MQ below (Qv D (wE a cI cJ) (AR a 25 s.heap.size) x) args s 0 0 (AR a 25 s.heap.size)) (F0 m 90 ls []) := by
  intro S x H locs ls hf G hl
  unfold fX7_goOn_0_90 at hf
  refine lv_goto (tgt := 112) C.1 C.2.1 dX7_goOn_90 (by decide) ?_
  exact r_vret C hr G hf dX7_goOn_112
set_option maxRecDepth 100000 in
set_option maxHeartbeats 4000000 in
theorem mX7_goOn_0 (l : Launch) (D : va_G) (a : Nat → Nat) (cI cJ : ClassId) (tk : Nat) (tf : Nat → Int32) (S : St) (x : Int32 × St) (hf : fX7_goOn_0 tf S = some x) : Mv l D (wE a cI cJ) a 25 cI cJ tk tf yX7_goOn cX7_goOn 6 { frames := 4, cells := 0, slots := 0, locals := 93 } [.ref (a 0)] S x := by
  refine opn_v (by decide +kernel) (Nat.le_of_ble_eq_true rfl) (fun p e s m below meth c C hr G ls hl => ?_)
  replace hl : lv_has ls 6 [(0, .ref (a 0))] := hl
  unfold fX7_goOn_0 at hf
  refine lv_aload_n C.1 C.2.1 dX7_goOn_0 rfl (lv_at hl 0 rfl) ?_
  refine gE_0_5 C G k_226 dX7_goOn_1 ?_
  obtain ⟨r1, S1, eS1, hf⟩ := bnd_e hf
  refine r_cali (As := []) (na := 0) C adE G (mX0_topSubject_13 l D a cI cJ tk tf S _ eS1) k_332 k_333 k_334 k_66 k_335 (q0 := 13) rfl (ci := 0) rfl (by decide +kernel) ⟨Nat.le_of_ble_eq_true rfl, Nat.le_of_ble_eq_true rfl⟩ rfl rfl ⟨Nat.zero_le _, Nat.zero_le _⟩ rfl hl.1 rfl (Nat.le_of_ble_eq_true rfl) dX7_goOn_4 (fun H locs G => ?_)
  refine lv_istore_n (lv' := [(1, .int r1), (0, .ref (a 0))]) C.1 C.2.1 dX7_goOn_7 rfl hl (by decide) rfl (fun ls hl => ?_)
  refine lv_aload_n C.1 C.2.1 dX7_goOn_8 rfl (lv_at hl 1 rfl) ?_
  refine gE_0_5 C G k_226 dX7_goOn_9 ?_
  obtain ⟨r2, S2, eS2, hf⟩ := bnd_e hf
  refine r_cali (As := []) (na := 0) C adE G (mX0_topPlace_13 l D a cI cJ tk tf S1 _ eS2) k_336 k_337 k_338 k_66 k_339 (q0 := 13) rfl (ci := 0) rfl (by decide +kernel) ⟨Nat.le_of_ble_eq_true rfl, Nat.le_of_ble_eq_true rfl⟩ rfl rfl ⟨Nat.zero_le _, Nat.zero_le _⟩ rfl hl.1 rfl (Nat.le_of_ble_eq_true rfl) dX7_goOn_12 (fun H locs G => ?_)
  refine lv_istore_n (lv' := [(2, .int r2), (1, .int r1), (0, .ref (a 0))]) C.1 C.2.1 dX7_goOn_15 rfl hl (by decide) rfl (fun ls hl => ?_)
  refine lv_iload_n C.1 C.2.1 dX7_goOn_16 rfl (lv_at hl 0 rfl) ?_
  refine lv_aload_n C.1 C.2.1 dX7_goOn_17 rfl (lv_at hl 2 rfl) ?_
  refine gE_0_0 C G k_221 dX7_goOn_18 ?_
  refine lv_iload_n C.1 C.2.1 dX7_goOn_21 rfl (lv_at hl 1 rfl) ?_
  obtain ⟨r3, S3, eS3, hf⟩ := bnd_e hf
  refine r_cali (As := [.int r1]) (na := 1) C adE G (mX4_length_1 l D a cI cJ tk tf r1 S2 _ eS3) k_266 k_267 k_268 k_60 k_269 (q0 := 1) rfl (ci := 4) rfl (by decide +kernel) ⟨Nat.le_of_ble_eq_true rfl, Nat.le_of_ble_eq_true rfl⟩ rfl rfl ⟨Nat.zero_le _, Nat.zero_le _⟩ rfl hl.1 rfl (Nat.le_of_ble_eq_true rfl) dX7_goOn_22 (fun H locs G => ?_)
  refine lv_icmp_lt (tgt := 36) C.1 C.2.1 dX7_goOn_25 (by decide) (fun c4 => ?_) (fun c4 => ?_)
  · replace hf := ifp c4 hf
    refine lv_aload_n C.1 C.2.1 dX7_goOn_36 rfl (lv_at hl 2 rfl) ?_
    refine gE_0_5 C G k_226 dX7_goOn_37 ?_
    obtain ⟨r5, S5, eS5, hf⟩ := bnd_e hf
    refine r_calv (As := []) (na := 0) C adE G (mX0_goBy_13 l D a cI cJ tk tf S3 _ eS5) k_344 k_345 k_346 k_66 k_347 (q0 := 13) rfl (ci := 0) rfl (by decide +kernel) ⟨Nat.le_of_ble_eq_true rfl, Nat.le_of_ble_eq_true rfl⟩ rfl rfl ⟨Nat.zero_le _, Nat.zero_le _⟩ rfl hl.1 rfl (Nat.le_of_ble_eq_true rfl) dX7_goOn_40 (fun H locs G => ?_)
    refine lv_aload_n C.1 C.2.1 dX7_goOn_43 rfl (lv_at hl 2 rfl) ?_
    refine gE_0_0 C G k_221 dX7_goOn_44 ?_
    refine lv_iload_n C.1 C.2.1 dX7_goOn_47 rfl (lv_at hl 1 rfl) ?_
    refine lv_iload_n C.1 C.2.1 dX7_goOn_48 rfl (lv_at hl 0 rfl) ?_
    obtain ⟨r6, S6, eS6, hf⟩ := bnd_e hf
    refine r_cali (As := [.int r1, .int r2]) (na := 2) C adE G (mX4_kindAt_1 l D a cI cJ tk tf r1 r2 S5 _ eS6) k_348 k_349 k_350 k_60 k_351 (q0 := 1) rfl (ci := 4) rfl (by decide +kernel) ⟨Nat.le_of_ble_eq_true rfl, Nat.le_of_ble_eq_true rfl⟩ rfl rfl ⟨Nat.zero_le _, Nat.zero_le _⟩ rfl hl.1 rfl (Nat.le_of_ble_eq_true rfl) dX7_goOn_49 (fun H locs G => ?_)
    refine lv_istore_n (lv' := [(3, .int r6), (2, .int r2), (1, .int r1), (0, .ref (a 0))]) C.1 C.2.1 dX7_goOn_52 rfl hl (by decide) rfl (fun ls hl => ?_)
    refine lv_aload_n C.1 C.2.1 dX7_goOn_53 rfl (lv_at hl 3 rfl) ?_
    refine gE_0_0 C G k_221 dX7_goOn_54 ?_
    refine lv_iload_n C.1 C.2.1 dX7_goOn_57 rfl (lv_at hl 2 rfl) ?_
    refine lv_iload_n C.1 C.2.1 dX7_goOn_58 rfl (lv_at hl 1 rfl) ?_
    obtain ⟨r7, S7, eS7, hf⟩ := bnd_e hf
    refine r_cali (As := [.int r1, .int r2]) (na := 2) C adE G (mX4_numberAt_1 l D a cI cJ tk tf r1 r2 S6 _ eS7) k_356 k_357 k_358 k_60 k_359 (q0 := 1) rfl (ci := 4) rfl (by decide +kernel) ⟨Nat.le_of_ble_eq_true rfl, Nat.le_of_ble_eq_true rfl⟩ rfl rfl ⟨Nat.zero_le _, Nat.zero_le _⟩ rfl hl.1 rfl (Nat.le_of_ble_eq_true rfl) dX7_goOn_59 (fun H locs G => ?_)
    refine lv_istore (lv' := [(4, .int r7), (3, .int r6), (2, .int r2), (1, .int r1), (0, .ref (a 0))]) C.1 C.2.1 dX7_goOn_62 hl (by decide) rfl (fun ls hl => ?_)
    refine lv_iload_n C.1 C.2.1 dX7_goOn_64 rfl (lv_at hl 1 rfl) ?_
    refine lv_iconst (v := 5) C.1 C.2.1 dX7_goOn_65 (by decide) ?_
    refine lv_icmp_ne (tgt := 93) C.1 C.2.1 dX7_goOn_66 (by decide) (fun c8 => ?_) (fun c8 => ?_)
    · replace hf := ifq c8 hf
      refine lv_aload_n C.1 C.2.1 dX7_goOn_93 rfl (lv_at hl 4 rfl) ?_
      refine gE_0_2 C G k_223 dX7_goOn_94 ?_
      refine lv_iload_n C.1 C.2.1 dX7_goOn_97 rfl (lv_at hl 1 rfl) ?_
      refine lv_iload C.1 C.2.1 dX7_goOn_98 (lv_at hl 0 rfl) ?_
      obtain ⟨r12, S12, eS12, hf⟩ := bnd_e hf
      refine r_cali (As := [.int r6, .int r7]) (na := 2) C adE G (mX2_put_5 l D a cI cJ tk tf r6 r7 S7 _ eS12) k_288 k_289 k_290 k_62 k_291 (q0 := 5) rfl (ci := 2) rfl (by decide +kernel) ⟨Nat.le_of_ble_eq_true rfl, Nat.le_of_ble_eq_true rfl⟩ rfl rfl ⟨Nat.zero_le _, Nat.zero_le _⟩ rfl hl.1 rfl (Nat.le_of_ble_eq_true rfl) dX7_goOn_100 (fun H locs G => ?_)
      refine lv_if_ne (tgt := 112) C.1 C.2.1 dX7_goOn_103 (by decide) (fun c13 => ?_) (fun c13 => ?_)
      · replace hf := ifq c13 hf
        exact r_vret C hr G hf dX7_goOn_112
      · replace hf := ifp c13 hf
        refine lv_aload_n C.1 C.2.1 dX7_goOn_106 rfl (lv_at hl 4 rfl) ?_
        refine lv_iconst (v := 2) C.1 C.2.1 dX7_goOn_107 (by decide) ?_
        refine lv_iconst (v := (-1)) C.1 C.2.1 dX7_goOn_108 (by decide) ?_
        obtain ⟨r14, S14, eS14, hf⟩ := bnd_e hf
        refine r_calv (As := [.int (2 : Int32), .int (-1 : Int32)]) (na := 2) C adE G (mX7_arise_0 l D a cI cJ tk tf (2 : Int32) (-1 : Int32) S12 _ eS14) k_546 k_548 k_26 k_59 k_549 (q0 := 0) rfl (ci := 7) rfl (by decide +kernel) ⟨Nat.le_of_ble_eq_true rfl, Nat.le_of_ble_eq_true rfl⟩ rfl rfl ⟨Nat.zero_le _, Nat.zero_le _⟩ rfl hl.1 rfl (Nat.le_of_ble_eq_true rfl) dX7_goOn_109 (fun H locs G => ?_)
        exact r_vret C hr G hf dX7_goOn_112
    · replace hf := ifp c8 hf
      refine lv_aload_n C.1 C.2.1 dX7_goOn_69 rfl (lv_at hl 4 rfl) ?_
      refine lv_iload C.1 C.2.1 dX7_goOn_70 (lv_at hl 0 rfl) ?_
      obtain ⟨r9, S9, eS9, hf⟩ := bnd_e hf
      refine r_cali (As := [.int r7]) (na := 1) C adE G (mX7_operate_0 l D a cI cJ tk tf r7 S7 _ eS9) k_360 k_362 k_3 k_59 k_363 (q0 := 0) rfl (ci := 7) rfl (by decide +kernel) ⟨Nat.le_of_ble_eq_true rfl, Nat.le_of_ble_eq_true rfl⟩ rfl rfl ⟨Nat.zero_le _, Nat.zero_le _⟩ rfl hl.1 rfl (Nat.le_of_ble_eq_true rfl) dX7_goOn_72 (fun H locs G => ?_)
      refine lv_istore (lv' := [(5, .int r9), (4, .int r7), (3, .int r6), (2, .int r2), (1, .int r1), (0, .ref (a 0))]) C.1 C.2.1 dX7_goOn_75 hl (by decide) rfl (fun ls hl => ?_)
      refine lv_iload C.1 C.2.1 dX7_goOn_77 (lv_at hl 0 rfl) ?_
      refine lv_if_eq (tgt := 90) C.1 C.2.1 dX7_goOn_79 (by decide) (fun c10 => ?_) (fun c10 => ?_)
      · replace hf := ifp c10 hf
        exact rX7_goOn_0_90 C hr S9 _ _ _ _ hf G (lv_sub hl [] rfl)
      · replace hf := ifq c10 hf
        refine lv_aload_n C.1 C.2.1 dX7_goOn_82 rfl (lv_at hl 5 rfl) ?_
        refine lv_iload C.1 C.2.1 dX7_goOn_83 (lv_at hl 0 rfl) ?_
        refine lv_iload C.1 C.2.1 dX7_goOn_85 (lv_at hl 1 rfl) ?_
        obtain ⟨r11, S11, eS11, hf⟩ := bnd_e hf
        refine r_calv (As := [.int r9, .int r7]) (na := 2) C adE G (mX7_arise_0 l D a cI cJ tk tf r9 r7 S9 _ eS11) k_546 k_548 k_26 k_59 k_549 (q0 := 0) rfl (ci := 7) rfl (by decide +kernel) ⟨Nat.le_of_ble_eq_true rfl, Nat.le_of_ble_eq_true rfl⟩ rfl rfl ⟨Nat.zero_le _, Nat.zero_le _⟩ rfl hl.1 rfl (Nat.le_of_ble_eq_true rfl) dX7_goOn_87 (fun H locs G => ?_)
        exact rX7_goOn_0_90 C hr S11 _ _ _ _ hf G (lv_sub hl [] rfl)
  · replace hf := ifq c4 hf
    refine lv_aload_n C.1 C.2.1 dX7_goOn_28 rfl (lv_at hl 2 rfl) ?_
    refine gE_0_5 C G k_226 dX7_goOn_29 ?_
    obtain ⟨r15, S15, eS15, hf⟩ := bnd_e hf
    refine r_calv (As := []) (na := 0) C adE G (mX0_takeTop_13 l D a cI cJ tk tf S3 _ eS15) k_340 k_341 k_342 k_66 k_343 (q0 := 13) rfl (ci := 0) rfl (by decide +kernel) ⟨Nat.le_of_ble_eq_true rfl, Nat.le_of_ble_eq_true rfl⟩ rfl rfl ⟨Nat.zero_le _, Nat.zero_le _⟩ rfl hl.1 rfl (Nat.le_of_ble_eq_true rfl) dX7_goOn_32 (fun H locs G => ?_)
    exact r_vret C hr G hf dX7_goOn_35
set_option maxRecDepth 100000 in
set_option maxHeartbeats 4000000 in
theorem rX7_step_0_43 {p : Program} {l : Launch} {e : Env} {s : State} {m : MethodId} {args : Array Value} {below : List Frame} {meth : Method} {c : Code} {D : va_G} {a : Nat → Nat} {cI cJ : ClassId} {tk : Nat} {tf : Nat → Int32} (C : Cx p s m args meth c RX7 cX7_step 1 D cI cJ tk tf (AR a 25 s.heap.size)) (hr : meth.sig.returnType = none) : ∀ (S : St) (x : Int32 × St) (H : Heap) (locs : List Loc) (ls : Array Slot), fX7_step_0_43 tf S = some x → Wd D (wE a cI cJ) (AR a 25 s.heap.size) s S H locs → lv_has ls 1 [(0, .ref (a 0))] → W p l e { frames := 5, cells := 0, slots := 0, locals := 118 } s m args below meth c H locs 0 0 (MQ below (Qv D (wE a cI cJ) (AR a 25 s.heap.size) x) args s 0 0 (AR a 25 s.heap.size)) (F0 m 43 ls []) := by
  intro S x H locs ls hf G hl
  unfold fX7_step_0_43 at hf
  refine lv_aload_n C.1 C.2.1 dX7_step_43 rfl (lv_at hl 0 rfl) ?_
  obtain ⟨r1, S1, eS1, hf⟩ := bnd_e hf
  refine r_calv (As := []) (na := 0) C adE G (mX7_turn_0 l D a cI cJ tk tf S _ eS1) k_566 k_568 k_27 k_59 k_569 (q0 := 0) rfl (ci := 7) rfl (by decide +kernel) ⟨Nat.le_of_ble_eq_true rfl, Nat.le_of_ble_eq_true rfl⟩ rfl rfl ⟨Nat.zero_le _, Nat.zero_le _⟩ rfl hl.1 rfl (Nat.le_of_ble_eq_true rfl) dX7_step_44 (fun H locs G => ?_)
  refine lv_goto (tgt := 64) C.1 C.2.1 dX7_step_47 (by decide) ?_
  exact r_vret C hr G hf dX7_step_64
set_option maxRecDepth 100000 in
set_option maxHeartbeats 4000000 in
theorem mX7_step_0 (l : Launch) (D : va_G) (a : Nat → Nat) (cI cJ : ClassId) (tk : Nat) (tf : Nat → Int32) (S : St) (x : Int32 × St) (hf : fX7_step_0 tf S = some x) : Mv l D (wE a cI cJ) a 25 cI cJ tk tf yX7_step cX7_step 1 { frames := 5, cells := 0, slots := 0, locals := 118 } [.ref (a 0)] S x := by
  refine opn_v (by decide +kernel) (Nat.le_of_ble_eq_true rfl) (fun p e s m below meth c C hr G ls hl => ?_)
  replace hl : lv_has ls 1 [(0, .ref (a 0))] := hl
  unfold fX7_step_0 at hf
  refine lv_aload_n C.1 C.2.1 dX7_step_0 rfl (lv_at hl 0 rfl) ?_
  refine gE_0_5 C G k_226 dX7_step_1 ?_
  obtain ⟨r1, S1, eS1, hf⟩ := bnd_e hf
  refine r_cali (As := []) (na := 0) C adE G (mX0_topSort_13 l D a cI cJ tk tf S _ eS1) k_324 k_325 k_326 k_66 k_327 (q0 := 13) rfl (ci := 0) rfl (by decide +kernel) ⟨Nat.le_of_ble_eq_true rfl, Nat.le_of_ble_eq_true rfl⟩ rfl rfl ⟨Nat.zero_le _, Nat.zero_le _⟩ rfl hl.1 rfl (Nat.le_of_ble_eq_true rfl) dX7_step_4 (fun H locs G => ?_)
  by_cases c2 : r1 = (0 : Int32)
  · replace hf := ifp c2 hf
    refine lv_tableIn (tgt := 36) C.1 C.2.1 dX7_step_7 (by rw [c2]; decide) (by rw [c2]; decide) (by rw [c2]; rfl) (by decide) ?_
    refine lv_aload_n C.1 C.2.1 dX7_step_36 rfl (lv_at hl 0 rfl) ?_
    obtain ⟨r3, S3, eS3, hf⟩ := bnd_e hf
    refine r_calv (As := []) (na := 0) C adE G (mX7_goOn_0 l D a cI cJ tk tf S1 _ eS3) k_328 k_330 k_1 k_59 k_331 (q0 := 0) rfl (ci := 7) rfl (by decide +kernel) ⟨Nat.le_of_ble_eq_true rfl, Nat.le_of_ble_eq_true rfl⟩ rfl rfl ⟨Nat.zero_le _, Nat.zero_le _⟩ rfl hl.1 rfl (Nat.le_of_ble_eq_true rfl) dX7_step_37 (fun H locs G => ?_)
    refine lv_goto (tgt := 64) C.1 C.2.1 dX7_step_40 (by decide) ?_
    exact r_vret C hr G hf dX7_step_64
  · replace hf := ifq c2 hf
    by_cases c4 : r1 = (1 : Int32)
    · replace hf := ifp c4 hf
      refine lv_tableIn (tgt := 43) C.1 C.2.1 dX7_step_7 (by rw [c4]; decide) (by rw [c4]; decide) (by rw [c4]; rfl) (by decide) ?_
      exact rX7_step_0_43 C hr S1 _ _ _ _ hf G (lv_sub hl [0] rfl)
    · replace hf := ifq c4 hf
      by_cases c5 : r1 = (2 : Int32)
      · replace hf := ifp c5 hf
        refine lv_tableIn (tgt := 43) C.1 C.2.1 dX7_step_7 (by rw [c5]; decide) (by rw [c5]; decide) (by rw [c5]; rfl) (by decide) ?_
        exact rX7_step_0_43 C hr S1 _ _ _ _ hf G (lv_sub hl [0] rfl)
      · replace hf := ifq c5 hf
        by_cases c6 : r1 = (3 : Int32)
        · replace hf := ifp c6 hf
          refine lv_tableIn (tgt := 50) C.1 C.2.1 dX7_step_7 (by rw [c6]; decide) (by rw [c6]; decide) (by rw [c6]; rfl) (by decide) ?_
          refine lv_aload_n C.1 C.2.1 dX7_step_50 rfl (lv_at hl 0 rfl) ?_
          obtain ⟨r7, S7, eS7, hf⟩ := bnd_e hf
          refine r_calv (As := []) (na := 0) C adE G (mX7_endStopped_0 l D a cI cJ tk tf S1 _ eS7) k_582 k_584 k_28 k_59 k_585 (q0 := 0) rfl (ci := 7) rfl (by decide +kernel) ⟨Nat.le_of_ble_eq_true rfl, Nat.le_of_ble_eq_true rfl⟩ rfl rfl ⟨Nat.zero_le _, Nat.zero_le _⟩ rfl hl.1 rfl (Nat.le_of_ble_eq_true rfl) dX7_step_51 (fun H locs G => ?_)
          refine lv_goto (tgt := 64) C.1 C.2.1 dX7_step_54 (by decide) ?_
          exact r_vret C hr G hf dX7_step_64
        · replace hf := ifq c6 hf
          have nc2 : (r1).toInt ≠ 0 := nti c2
          have nc4 : (r1).toInt ≠ 1 := nti c4
          have nc5 : (r1).toInt ≠ 2 := nti c5
          have nc6 : (r1).toInt ≠ 3 := nti c6
          refine lv_tableOut (tgt := 57) C.1 C.2.1 dX7_step_7 (by omega) (by decide) ?_
          refine lv_aload_n C.1 C.2.1 dX7_step_57 rfl (lv_at hl 0 rfl) ?_
          refine gE_0_5 C G k_226 dX7_step_58 ?_
          obtain ⟨r8, S8, eS8, hf⟩ := bnd_e hf
          refine r_calv (As := []) (na := 0) C adE G (mX0_takeTop_13 l D a cI cJ tk tf S1 _ eS8) k_340 k_341 k_342 k_66 k_343 (q0 := 13) rfl (ci := 0) rfl (by decide +kernel) ⟨Nat.le_of_ble_eq_true rfl, Nat.le_of_ble_eq_true rfl⟩ rfl rfl ⟨Nat.zero_le _, Nat.zero_le _⟩ rfl hl.1 rfl (Nat.le_of_ble_eq_true rfl) dX7_step_61 (fun H locs G => ?_)
          exact r_vret C hr G hf dX7_step_64
set_option maxRecDepth 100000 in
set_option maxHeartbeats 4000000 in
theorem rX7_run_0_25 {p : Program} {l : Launch} {e : Env} {s : State} {m : MethodId} {args : Array Value} {below : List Frame} {meth : Method} {c : Code} {D : va_G} {a : Nat → Nat} {cI cJ : ClassId} {tk : Nat} {tf : Nat → Int32} (C : Cx p s m args meth c RX7 cX7_run 4 D cI cJ tk tf (AR a 25 s.heap.size)) (hr : meth.sig.returnType = (some .int)) : ∀ (S : St) (x : Int32 × St) (H : Heap) (locs : List Loc) (ls : Array Slot), fX7_run_0_25 tf S = some x → Wd D (wE a cI cJ) (AR a 25 s.heap.size) s S H locs → lv_has ls 4 [] → W p l e { frames := 6, cells := 0, slots := 0, locals := 138 } s m args below meth c H locs 0 0 (MQ below (Qi D (wE a cI cJ) (AR a 25 s.heap.size) x) args s 0 0 (AR a 25 s.heap.size)) (F0 m 25 ls []) := by
  intro S x H locs ls hf G hl
  unfold fX7_run_0_25 at hf
  refine lv_bipush (v := (-2)) C.1 C.2.1 dX7_run_25 (by decide) ?_
  exact r_iret C hr G hf dX7_run_27
set_option maxRecDepth 100000 in
set_option maxHeartbeats 4000000 in
theorem rX7_run_0_73 {p : Program} {l : Launch} {e : Env} {s : State} {m : MethodId} {args : Array Value} {below : List Frame} {meth : Method} {c : Code} {D : va_G} {a : Nat → Nat} {cI cJ : ClassId} {tk : Nat} {tf : Nat → Int32} (C : Cx p s m args meth c RX7 cX7_run 4 D cI cJ tk tf (AR a 25 s.heap.size)) (hr : meth.sig.returnType = (some .int)) : ∀ (q3 : Int32) (S : St) (x : Int32 × St) (H : Heap) (locs : List Loc) (ls : Array Slot), fX7_run_0_73 tf q3 S = some x → Wd D (wE a cI cJ) (AR a 25 s.heap.size) s S H locs → lv_has ls 4 [(0, .ref (a 0)), (3, .int q3)] → W p l e { frames := 6, cells := 0, slots := 0, locals := 138 } s m args below meth c H locs 0 0 (MQ below (Qi D (wE a cI cJ) (AR a 25 s.heap.size) x) args s 0 0 (AR a 25 s.heap.size)) (F0 m 73 ls []) := by
  intro q3 S x H locs ls hf G hl
  unfold fX7_run_0_73 at hf
  refine lv_aload_n C.1 C.2.1 dX7_run_73 rfl (lv_at hl 0 rfl) ?_
  refine lv_iload_n C.1 C.2.1 dX7_run_74 rfl (lv_at hl 1 rfl) ?_
  refine pE_0_9 C G k_230 dX7_run_75 (fun H locs G => ?_)
  obtain ⟨S1, eS1, hf⟩ := stp_e hf
  rw [← eS1] at G
  clear eS1
  refine lv_aload_n C.1 C.2.1 dX7_run_78 rfl (lv_at hl 0 rfl) ?_
  refine gE_0_5 C G k_226 dX7_run_79 ?_
  obtain ⟨r2, S2, eS2, hf⟩ := bnd_e hf
  refine r_cali (As := []) (na := 0) C adE G (mX0_count_13 l D a cI cJ tk tf S1 _ eS2) k_316 k_317 k_318 k_66 k_319 (q0 := 13) rfl (ci := 0) rfl (by decide +kernel) ⟨Nat.le_of_ble_eq_true rfl, Nat.le_of_ble_eq_true rfl⟩ rfl rfl ⟨Nat.zero_le _, Nat.zero_le _⟩ rfl hl.1 rfl (Nat.le_of_ble_eq_true rfl) dX7_run_82 (fun H locs G => ?_)
  refine lv_if_ne (tgt := 93) C.1 C.2.1 dX7_run_85 (by decide) (fun c3 => ?_) (fun c3 => ?_)
  · replace hf := ifq c3 hf
    refine lv_aload_n C.1 C.2.1 dX7_run_93 rfl (lv_at hl 0 rfl) ?_
    refine gE_0_5 C G k_226 dX7_run_94 ?_
    refine lv_iconst (v := 0) C.1 C.2.1 dX7_run_97 (by decide) ?_
    obtain ⟨r4, S4, eS4, hf⟩ := bnd_e hf
    refine r_calv (As := [.int (0 : Int32)]) (na := 1) C adE G (mX0_cutTo_13 l D a cI cJ tk tf (0 : Int32) S2 _ eS4) k_437 k_438 k_439 k_66 k_440 (q0 := 13) rfl (ci := 0) rfl (by decide +kernel) ⟨Nat.le_of_ble_eq_true rfl, Nat.le_of_ble_eq_true rfl⟩ rfl rfl ⟨Nat.zero_le _, Nat.zero_le _⟩ rfl hl.1 rfl (Nat.le_of_ble_eq_true rfl) dX7_run_98 (fun H locs G => ?_)
    refine lv_bipush (v := 10) C.1 C.2.1 dX7_run_101 (by decide) ?_
    exact r_iret C hr G hf dX7_run_103
  · replace hf := ifp c3 hf
    refine lv_aload_n C.1 C.2.1 dX7_run_88 rfl (lv_at hl 0 rfl) ?_
    refine gE_0_8 C G k_229 dX7_run_89 ?_
    exact r_iret C hr G hf dX7_run_92
set_option maxRecDepth 100000 in
set_option maxHeartbeats 4000000 in
theorem rX7_run_0_48 {p : Program} {l : Launch} {e : Env} {s : State} {m : MethodId} {args : Array Value} {below : List Frame} {meth : Method} {c : Code} {D : va_G} {a : Nat → Nat} {cI cJ : ClassId} {tk : Nat} {tf : Nat → Int32} (C : Cx p s m args meth c RX7 cX7_run 4 D cI cJ tk tf (AR a 25 s.heap.size)) (hr : meth.sig.returnType = (some .int)) : ∀ (n : Nat) (q2 : Int32) (q3 : Int32) (S : St) (x : Int32 × St) (H : Heap) (locs : List Loc) (ls : Array Slot), fX7_run_0_48 tf n q2 q3 S = some x → Wd D (wE a cI cJ) (AR a 25 s.heap.size) s S H locs → lv_has ls 4 [(0, .ref (a 0)), (2, .int q2), (3, .int q3)] → W p l e { frames := 6, cells := 0, slots := 0, locals := 138 } s m args below meth c H locs 0 0 (MQ below (Qi D (wE a cI cJ) (AR a 25 s.heap.size) x) args s 0 0 (AR a 25 s.heap.size)) (F0 m 48 ls []) := by
  intro n
  induction n with
  | zero => intro q2 q3 S x H locs ls hf G hl; cases hf
  | succ n ih =>
    intro q2 q3 S x H locs ls hf G hl
    rw [fX7_run_0_48.eq_2] at hf
    refine lv_iload_n C.1 C.2.1 dX7_run_48 rfl (lv_at hl 2 rfl) ?_
    refine lv_iload_n C.1 C.2.1 dX7_run_49 rfl (lv_at hl 1 rfl) ?_
    refine lv_icmp_ge (tgt := 73) C.1 C.2.1 dX7_run_50 (by decide) (fun c1 => ?_) (fun c1 => ?_)
    · replace hf := ifp c1 hf
      exact rX7_run_0_73 C hr q3 S _ _ _ _ hf G (lv_sub hl [0, 2] rfl)
    · replace hf := ifq c1 hf
      refine lv_aload_n C.1 C.2.1 dX7_run_53 rfl (lv_at hl 0 rfl) ?_
      refine gE_0_5 C G k_226 dX7_run_54 ?_
      obtain ⟨r2, S2, eS2, hf⟩ := bnd_e hf
      refine r_cali (As := []) (na := 0) C adE G (mX0_count_13 l D a cI cJ tk tf S _ eS2) k_316 k_317 k_318 k_66 k_319 (q0 := 13) rfl (ci := 0) rfl (by decide +kernel) ⟨Nat.le_of_ble_eq_true rfl, Nat.le_of_ble_eq_true rfl⟩ rfl rfl ⟨Nat.zero_le _, Nat.zero_le _⟩ rfl hl.1 rfl (Nat.le_of_ble_eq_true rfl) dX7_run_57 (fun H locs G => ?_)
      refine lv_if_le (tgt := 73) C.1 C.2.1 dX7_run_60 (by decide) (fun c3 => ?_) (fun c3 => ?_)
      · replace hf := ifp c3 hf
        exact rX7_run_0_73 C hr q3 S2 _ _ _ _ hf G (lv_sub hl [0, 2] rfl)
      · replace hf := ifq c3 hf
        refine lv_aload_n C.1 C.2.1 dX7_run_63 rfl (lv_at hl 0 rfl) ?_
        obtain ⟨r4, S4, eS4, hf⟩ := bnd_e hf
        refine r_calv (As := []) (na := 0) C adE G (mX7_step_0 l D a cI cJ tk tf S2 _ eS4) k_320 k_322 k_0 k_59 k_323 (q0 := 0) rfl (ci := 7) rfl (by decide +kernel) ⟨Nat.le_of_ble_eq_true rfl, Nat.le_of_ble_eq_true rfl⟩ rfl rfl ⟨Nat.zero_le _, Nat.zero_le _⟩ rfl hl.1 rfl (Nat.le_of_ble_eq_true rfl) dX7_run_64 (fun H locs G => ?_)
        obtain ⟨y5, ey5, hf⟩ := stv_e hf
        refine lv_iinc (v := y5) (lv' := [(3, .int y5), (0, .ref (a 0)), (2, .int q2)]) C.1 C.2.1 dX7_run_67 hl (k := 2) rfl (by rw [ey5]; rfl) (by decide) rfl (fun ls hl => ?_)
        refine lv_goto (tgt := 48) C.1 C.2.1 dX7_run_70 (by decide) ?_
        exact ih q2 y5 S4 _ _ _ _ hf G (lv_sub hl [1, 2, 0] rfl)
set_option maxRecDepth 100000 in
set_option maxHeartbeats 4000000 in
theorem mX7_run_0 (l : Launch) (D : va_G) (a : Nat → Nat) (cI cJ : ClassId) (tk : Nat) (tf : Nat → Int32) (p1 : Int32) (p2 : Int32) (S : St) (x : Int32 × St) (hf : fX7_run_0 tf p1 p2 S = some x) : Mi l D (wE a cI cJ) a 25 cI cJ tk tf yX7_run cX7_run 4 (some .int) { frames := 6, cells := 0, slots := 0, locals := 138 } [.ref (a 0), .int p1, .int p2] S x := by
  refine opn_i (by decide +kernel) (Nat.le_of_ble_eq_true rfl) (fun p e s m below meth c C hr G ls hl => ?_)
  replace hl : lv_has ls 4 [(0, .ref (a 0)), (1, .int p1), (2, .int p2)] := hl
  unfold fX7_run_0 at hf
  refine lv_aload_n C.1 C.2.1 dX7_run_0 rfl (lv_at hl 0 rfl) ?_
  refine gE_0_0 C G k_221 dX7_run_1 ?_
  refine lv_iload_n C.1 C.2.1 dX7_run_4 rfl (lv_at hl 1 rfl) ?_
  obtain ⟨r1, S1, eS1, hf⟩ := bnd_e hf
  refine r_cali (As := [.int p1]) (na := 1) C adE G (mX4_has_1 l D a cI cJ tk tf p1 S _ eS1) k_259 k_260 k_261 k_60 k_262 (q0 := 1) rfl (ci := 4) rfl (by decide +kernel) ⟨Nat.le_of_ble_eq_true rfl, Nat.le_of_ble_eq_true rfl⟩ rfl rfl ⟨Nat.zero_le _, Nat.zero_le _⟩ rfl hl.1 rfl (Nat.le_of_ble_eq_true rfl) dX7_run_5 (fun H locs G => ?_)
  refine lv_if_ne (tgt := 13) C.1 C.2.1 dX7_run_8 (by decide) (fun c2 => ?_) (fun c2 => ?_)
  · replace hf := ifq c2 hf
    refine lv_iload_n C.1 C.2.1 dX7_run_13 rfl (lv_at hl 2 rfl) ?_
    refine lv_iconst (v := 1) C.1 C.2.1 dX7_run_14 (by decide) ?_
    refine lv_icmp_lt (tgt := 25) C.1 C.2.1 dX7_run_15 (by decide) (fun c3 => ?_) (fun c3 => ?_)
    · replace hf := ifp c3 hf
      exact rX7_run_0_25 C hr S1 _ _ _ _ hf G (lv_sub hl [] rfl)
    · replace hf := ifq c3 hf
      refine lv_iload_n C.1 C.2.1 dX7_run_18 rfl (lv_at hl 2 rfl) ?_
      refine lv_sipush (v := 5000) C.1 C.2.1 dX7_run_19 (by decide) ?_
      refine lv_icmp_le (tgt := 28) C.1 C.2.1 dX7_run_22 (by decide) (fun c4 => ?_) (fun c4 => ?_)
      · replace hf := ifp c4 hf
        refine lv_aload_n C.1 C.2.1 dX7_run_28 rfl (lv_at hl 0 rfl) ?_
        refine gE_0_5 C G k_226 dX7_run_29 ?_
        refine lv_iload_n C.1 C.2.1 dX7_run_32 rfl (lv_at hl 1 rfl) ?_
        obtain ⟨r5, S5, eS5, hf⟩ := bnd_e hf
        refine r_calv (As := [.int p1]) (na := 1) C adE G (mX0_startWith_13 l D a cI cJ tk tf p1 S1 _ eS5) k_308 k_309 k_310 k_66 k_311 (q0 := 13) rfl (ci := 0) rfl (by decide +kernel) ⟨Nat.le_of_ble_eq_true rfl, Nat.le_of_ble_eq_true rfl⟩ rfl rfl ⟨Nat.zero_le _, Nat.zero_le _⟩ rfl hl.1 rfl (Nat.le_of_ble_eq_true rfl) dX7_run_33 (fun H locs G => ?_)
        refine lv_aload_n C.1 C.2.1 dX7_run_36 rfl (lv_at hl 0 rfl) ?_
        refine lv_iconst (v := 0) C.1 C.2.1 dX7_run_37 (by decide) ?_
        refine pE_0_8 C G k_229 dX7_run_38 (fun H locs G => ?_)
        obtain ⟨S6, eS6, hf⟩ := stp_e hf
        rw [← eS6] at G
        clear eS6
        refine lv_aload_n C.1 C.2.1 dX7_run_41 rfl (lv_at hl 0 rfl) ?_
        refine lv_iconst (v := 0) C.1 C.2.1 dX7_run_42 (by decide) ?_
        refine pE_0_10 C G k_231 dX7_run_43 (fun H locs G => ?_)
        obtain ⟨S7, eS7, hf⟩ := stp_e hf
        rw [← eS7] at G
        clear eS7
        refine lv_iconst (v := 0) C.1 C.2.1 dX7_run_46 (by decide) ?_
        obtain ⟨y8, ey8, hf⟩ := stv_e hf
        refine nm_i ey8 ?_
        refine lv_istore_n (lv' := [(3, .int y8), (0, .ref (a 0)), (1, .int p1), (2, .int p2)]) C.1 C.2.1 dX7_run_47 rfl hl (by decide) rfl (fun ls hl => ?_)
        exact rX7_run_0_48 C hr 6000 p2 y8 S7 _ _ _ _ hf G (lv_sub hl [1, 3, 0] rfl)
      · replace hf := ifq c4 hf
        exact rX7_run_0_25 C hr S1 _ _ _ _ hf G (lv_sub hl [] rfl)
  · replace hf := ifp c2 hf
    refine lv_iconst (v := (-1)) C.1 C.2.1 dX7_run_11 (by decide) ?_
    exact r_iret C hr G hf dX7_run_12
set_option maxRecDepth 100000 in
set_option maxHeartbeats 4000000 in
theorem mX7_interrupt_0 (l : Launch) (D : va_G) (a : Nat → Nat) (cI cJ : ClassId) (tk : Nat) (tf : Nat → Int32) (S : St) (x : Int32 × St) (hf : fX7_interrupt_0 S = some x) : Mi l D (wE a cI cJ) a 25 cI cJ tk tf yX7_interrupt cX7_interrupt 1 (some .int) { frames := 0, cells := 0, slots := 0, locals := 0 } [.ref (a 0)] S x := by
  refine opn_i (by decide +kernel) (Nat.le_of_ble_eq_true rfl) (fun p e s m below meth c C hr G ls hl => ?_)
  replace hl : lv_has ls 1 [(0, .ref (a 0))] := hl
  unfold fX7_interrupt_0 at hf
  refine lv_aload_n C.1 C.2.1 dX7_interrupt_0 rfl (lv_at hl 0 rfl) ?_
  refine gE_0_7 C G k_228 dX7_interrupt_1 ?_
  refine lv_if_eq (tgt := 9) C.1 C.2.1 dX7_interrupt_4 (by decide) (fun c1 => ?_) (fun c1 => ?_)
  · replace hf := ifp c1 hf
    refine lv_aload_n C.1 C.2.1 dX7_interrupt_9 rfl (lv_at hl 0 rfl) ?_
    refine lv_iconst (v := 1) C.1 C.2.1 dX7_interrupt_10 (by decide) ?_
    refine pE_0_7 C G (Or.inr rfl) k_228 dX7_interrupt_11 (fun H locs G => ?_)
    obtain ⟨S2, eS2, hf⟩ := stp_e hf
    rw [← eS2] at G
    clear eS2
    refine lv_iconst (v := 1) C.1 C.2.1 dX7_interrupt_14 (by decide) ?_
    exact r_iret C hr G hf dX7_interrupt_15
  · replace hf := ifq c1 hf
    refine lv_iconst (v := 0) C.1 C.2.1 dX7_interrupt_7 (by decide) ?_
    exact r_iret C hr G hf dX7_interrupt_8
set_option maxRecDepth 100000 in
set_option maxHeartbeats 4000000 in
theorem mX7_size_0 (l : Launch) (D : va_G) (a : Nat → Nat) (cI cJ : ClassId) (tk : Nat) (tf : Nat → Int32) (S : St) (x : Int32 × St) (hf : fX7_size_0 S = some x) : Mi l D (wE a cI cJ) a 25 cI cJ tk tf yX7_size cX7_size 1 (some .int) { frames := 1, cells := 0, slots := 0, locals := 20 } [.ref (a 0)] S x := by
  refine opn_i (by decide +kernel) (Nat.le_of_ble_eq_true rfl) (fun p e s m below meth c C hr G ls hl => ?_)
  replace hl : lv_has ls 1 [(0, .ref (a 0))] := hl
  unfold fX7_size_0 at hf
  refine lv_aload_n C.1 C.2.1 dX7_size_0 rfl (lv_at hl 0 rfl) ?_
  refine gE_0_2 C G k_223 dX7_size_1 ?_
  obtain ⟨r1, S1, eS1, hf⟩ := bnd_e hf
  refine r_cali (As := []) (na := 0) C adE G (mX2_count_5 l D a cI cJ tk tf S _ eS1) k_292 k_293 k_294 k_62 k_295 (q0 := 5) rfl (ci := 2) rfl (by decide +kernel) ⟨Nat.le_of_ble_eq_true rfl, Nat.le_of_ble_eq_true rfl⟩ rfl rfl ⟨Nat.zero_le _, Nat.zero_le _⟩ rfl hl.1 rfl (Nat.le_of_ble_eq_true rfl) dX7_size_4 (fun H locs G => ?_)
  exact r_iret C hr G hf dX7_size_7
set_option maxRecDepth 100000 in
set_option maxHeartbeats 4000000 in
theorem rJ7_fill_53178_12_5 {p : Program} {l : Launch} {e : Env} {s : State} {m : MethodId} {args : Array Value} {below : List Frame} {meth : Method} {c : Code} {D : va_G} {a : Nat → Nat} {cI cJ : ClassId} {tk : Nat} {tf : Nat → Int32} (C : Cx p s m args meth c RJ7 cJ7_fill_53178 4 D cI cJ tk tf (AR a 25 s.heap.size)) (hr : meth.sig.returnType = none) : ∀ (n : Nat) (q1 : Int32) (q2 : Int32) (q3 : Int32) (S : St) (x : Int32 × St) (H : Heap) (locs : List Loc) (ls : Array Slot), fJ7_fill_53178_12_5 n q1 q2 q3 S = some x → Wd D (wE a cI cJ) (AR a 25 s.heap.size) s S H locs → lv_has ls 4 [(0, .ref (a 12)), (1, .int q1), (2, .int q2), (3, .int q3)] → W p l e { frames := 0, cells := 0, slots := 0, locals := 0 } s m args below meth c H locs 0 0 (MQ below (Qv D (wE a cI cJ) (AR a 25 s.heap.size) x) args s 0 0 (AR a 25 s.heap.size)) (F0 m 5 ls []) := by
  intro n
  induction n with
  | zero => intro q1 q2 q3 S x H locs ls hf G hl; cases hf
  | succ n ih =>
    intro q1 q2 q3 S x H locs ls hf G hl
    rw [fJ7_fill_53178_12_5.eq_2] at hf
    refine lv_iload_n C.1 C.2.1 dJ7_fill_53178_5 rfl (lv_at hl 2 rfl) ?_
    refine lv_iload_n C.1 C.2.1 dJ7_fill_53178_6 rfl (lv_at hl 3 rfl) ?_
    refine lv_icmp_ge (tgt := 20) C.1 C.2.1 dJ7_fill_53178_7 (by decide) (fun c1 => ?_) (fun c1 => ?_)
    · replace hf := ifp c1 hf
      exact r_vret C hr G hf dJ7_fill_53178_20
    · replace hf := ifq c1 hf
      refine lv_aload_n C.1 C.2.1 dJ7_fill_53178_10 rfl (lv_at hl 0 rfl) ?_
      refine lv_iload_n C.1 C.2.1 dJ7_fill_53178_11 rfl (lv_at hl 2 rfl) ?_
      refine lv_iload_n C.1 C.2.1 dJ7_fill_53178_12 rfl (lv_at hl 1 rfl) ?_
      obtain ⟨hi2, hf⟩ := ifn hf
      refine sE_12 C G hi2 dJ7_fill_53178_13 (fun H locs G => ?_)
      obtain ⟨S2, eS2, hf⟩ := stp_e hf
      rw [← eS2] at G
      clear eS2
      obtain ⟨y3, ey3, hf⟩ := stv_e hf
      refine lv_iinc (v := y3) (lv' := [(2, .int y3), (0, .ref (a 12)), (1, .int q1), (3, .int q3)]) C.1 C.2.1 dJ7_fill_53178_14 hl (k := 2) rfl (by rw [ey3]; rfl) (by decide) rfl (fun ls hl => ?_)
      refine lv_goto (tgt := 5) C.1 C.2.1 dJ7_fill_53178_17 (by decide) ?_
      exact ih q1 y3 q3 S2 _ _ _ _ hf G (lv_sub hl [1, 2, 0, 3] rfl)
set_option maxRecDepth 100000 in
set_option maxHeartbeats 4000000 in
theorem mJ7_fill_53178_12 (l : Launch) (D : va_G) (a : Nat → Nat) (cI cJ : ClassId) (tk : Nat) (tf : Nat → Int32) (p2 : Int32) (S : St) (x : Int32 × St) (hf : fJ7_fill_53178_12 p2 S = some x) : Mv l D (wE a cI cJ) a 25 cI cJ tk tf yJ7_fill_53178 cJ7_fill_53178 4 { frames := 0, cells := 0, slots := 0, locals := 0 } [.ref (a 12), .int p2] S x := by
  refine opn_v (by decide +kernel) (Nat.le_of_ble_eq_true rfl) (fun p e s m below meth c C hr G ls hl => ?_)
  replace hl : lv_has ls 4 [(0, .ref (a 12)), (1, .int p2)] := hl
  unfold fJ7_fill_53178_12 at hf
  refine lv_iconst (v := 0) C.1 C.2.1 dJ7_fill_53178_0 (by decide) ?_
  obtain ⟨y1, ey1, hf⟩ := stv_e hf
  refine nm_i ey1 ?_
  refine lv_istore_n (lv' := [(2, .int y1), (0, .ref (a 12)), (1, .int p2)]) C.1 C.2.1 dJ7_fill_53178_1 rfl hl (by decide) rfl (fun ls hl => ?_)
  refine lv_aload_n C.1 C.2.1 dJ7_fill_53178_2 rfl (lv_at hl 1 rfl) ?_
  refine nE_12 C G dJ7_fill_53178_3 ?_
  obtain ⟨y2, ey2, hf⟩ := stv_e hf
  refine nm_i ey2 ?_
  refine lv_istore_n (lv' := [(3, .int y2), (2, .int y1), (0, .ref (a 12)), (1, .int p2)]) C.1 C.2.1 dJ7_fill_53178_4 rfl hl (by decide) rfl (fun ls hl => ?_)
  exact rJ7_fill_53178_12_5 C hr 500 p2 y1 y2 S _ _ _ _ hf G (lv_sub hl [2, 3, 1, 0] rfl)
set_option maxRecDepth 100000 in
set_option maxHeartbeats 4000000 in
theorem mX1_wipe_11 (l : Launch) (D : va_G) (a : Nat → Nat) (cI cJ : ClassId) (tk : Nat) (tf : Nat → Int32) (S : St) (x : Int32 × St) (hf : fX1_wipe_11 S = some x) : Mv l D (wE a cI cJ) a 25 cI cJ tk tf yX1_wipe cX1_wipe 1 { frames := 1, cells := 0, slots := 0, locals := 23 } [.ref (a 11)] S x := by
  refine opn_v (by decide +kernel) (Nat.le_of_ble_eq_true rfl) (fun p e s m below meth c C hr G ls hl => ?_)
  replace hl : lv_has ls 1 [(0, .ref (a 11))] := hl
  unfold fX1_wipe_11 at hf
  refine lv_aload_n C.1 C.2.1 dX1_wipe_0 rfl (lv_at hl 0 rfl) ?_
  refine gE_11_0 C G k_158 dX1_wipe_1 ?_
  refine lv_iconst (v := (-1)) C.1 C.2.1 dX1_wipe_4 (by decide) ?_
  obtain ⟨r1, S1, eS1, hf⟩ := bnd_e hf
  refine r_calsv (As := [.ref (a 12), .int (-1 : Int32)]) (na := 2) C adE G (mJ7_fill_53178_12 l D a cI cJ tk tf (-1 : Int32) S _ eS1) k_157 k_127 k_64 k_128 (by decide +kernel) ⟨Nat.le_of_ble_eq_true rfl, Nat.le_of_ble_eq_true rfl⟩ rfl rfl ⟨Nat.zero_le _, Nat.zero_le _⟩ rfl hl.1 rfl (Nat.le_of_ble_eq_true rfl) dX1_wipe_5 (fun H locs G => ?_)
  exact r_vret C hr G hf dX1_wipe_8
set_option maxRecDepth 100000 in
set_option maxHeartbeats 4000000 in
theorem mX2_takeOff_21 (l : Launch) (D : va_G) (a : Nat → Nat) (cI cJ : ClassId) (tk : Nat) (tf : Nat → Int32) (p1 : Int32) (S : St) (x : Int32 × St) (hf : fX2_takeOff_21 p1 S = some x) : Mv l D (wE a cI cJ) a 25 cI cJ tk tf yX2_takeOff cX2_takeOff 2 { frames := 0, cells := 0, slots := 0, locals := 0 } [.ref (a 21), .int p1] S x := by
  refine opn_v (by decide +kernel) (Nat.le_of_ble_eq_true rfl) (fun p e s m below meth c C hr G ls hl => ?_)
  replace hl : lv_has ls 2 [(0, .ref (a 21)), (1, .int p1)] := hl
  unfold fX2_takeOff_21 at hf
  refine lv_iload_n C.1 C.2.1 dX2_takeOff_0 rfl (lv_at hl 1 rfl) ?_
  refine lv_if_lt (tgt := 22) C.1 C.2.1 dX2_takeOff_1 (by decide) (fun c1 => ?_) (fun c1 => ?_)
  · replace hf := ifp c1 hf
    exact r_vret C hr G hf dX2_takeOff_22
  · replace hf := ifq c1 hf
    refine lv_iload_n C.1 C.2.1 dX2_takeOff_4 rfl (lv_at hl 1 rfl) ?_
    refine lv_aload_n C.1 C.2.1 dX2_takeOff_5 rfl (lv_at hl 0 rfl) ?_
    refine gE_21_2 C G k_112 dX2_takeOff_6 ?_
    refine lv_icmp_gt (tgt := 22) C.1 C.2.1 dX2_takeOff_9 (by decide) (fun c2 => ?_) (fun c2 => ?_)
    · replace hf := ifp c2 hf
      exact r_vret C hr G hf dX2_takeOff_22
    · replace hf := ifq c2 hf
      refine lv_aload_n C.1 C.2.1 dX2_takeOff_12 rfl (lv_at hl 0 rfl) ?_
      refine lv_dup C.1 C.2.1 dX2_takeOff_13 rfl ?_
      refine gE_21_2 C G k_112 dX2_takeOff_14 ?_
      refine lv_iload_n C.1 C.2.1 dX2_takeOff_17 rfl (lv_at hl 1 rfl) ?_
      refine lv_isub C.1 C.2.1 dX2_takeOff_18 ?_
      refine pE_21_2 C G k_112 dX2_takeOff_19 (fun H locs G => ?_)
      obtain ⟨S3, eS3, hf⟩ := stp_e hf
      rw [← eS3] at G
      clear eS3
      exact r_vret C hr G hf dX2_takeOff_22
set_option maxRecDepth 100000 in
set_option maxHeartbeats 4000000 in
theorem mX5_wipe_20 (l : Launch) (D : va_G) (a : Nat → Nat) (cI cJ : ClassId) (tk : Nat) (tf : Nat → Int32) (S : St) (x : Int32 × St) (hf : fX5_wipe_20 S = some x) : Mv l D (wE a cI cJ) a 25 cI cJ tk tf yX5_wipe cX5_wipe 1 { frames := 1, cells := 0, slots := 0, locals := 21 } [.ref (a 20)] S x := by
  refine opn_v (by decide +kernel) (Nat.le_of_ble_eq_true rfl) (fun p e s m below meth c C hr G ls hl => ?_)
  replace hl : lv_has ls 1 [(0, .ref (a 20))] := hl
  unfold fX5_wipe_20 at hf
  refine lv_aload_n C.1 C.2.1 dX5_wipe_0 rfl (lv_at hl 0 rfl) ?_
  refine lv_iconst (v := 0) C.1 C.2.1 dX5_wipe_1 (by decide) ?_
  refine pE_20_1 C G k_203 dX5_wipe_2 (fun H locs G => ?_)
  obtain ⟨S1, eS1, hf⟩ := stp_e hf
  rw [← eS1] at G
  clear eS1
  refine lv_aload_n C.1 C.2.1 dX5_wipe_5 rfl (lv_at hl 0 rfl) ?_
  refine lv_iconst (v := (-1)) C.1 C.2.1 dX5_wipe_6 (by decide) ?_
  refine pE_20_2 C G k_204 dX5_wipe_7 (fun H locs G => ?_)
  obtain ⟨S2, eS2, hf⟩ := stp_e hf
  rw [← eS2] at G
  clear eS2
  refine lv_aload_n C.1 C.2.1 dX5_wipe_10 rfl (lv_at hl 0 rfl) ?_
  refine lv_iconst (v := 0) C.1 C.2.1 dX5_wipe_11 (by decide) ?_
  refine pE_20_3 C G k_205 dX5_wipe_12 (fun H locs G => ?_)
  obtain ⟨S3, eS3, hf⟩ := stp_e hf
  rw [← eS3] at G
  clear eS3
  refine lv_aload_n C.1 C.2.1 dX5_wipe_15 rfl (lv_at hl 0 rfl) ?_
  refine lv_iconst (v := 0) C.1 C.2.1 dX5_wipe_16 (by decide) ?_
  refine pE_20_4 C G k_206 dX5_wipe_17 (fun H locs G => ?_)
  obtain ⟨S4, eS4, hf⟩ := stp_e hf
  rw [← eS4] at G
  clear eS4
  refine lv_aload_n C.1 C.2.1 dX5_wipe_20 rfl (lv_at hl 0 rfl) ?_
  refine lv_iconst (v := 0) C.1 C.2.1 dX5_wipe_21 (by decide) ?_
  refine pE_20_5 C G (Or.inl rfl) k_207 dX5_wipe_22 (fun H locs G => ?_)
  obtain ⟨S5, eS5, hf⟩ := stp_e hf
  rw [← eS5] at G
  clear eS5
  refine lv_aload_n C.1 C.2.1 dX5_wipe_25 rfl (lv_at hl 0 rfl) ?_
  refine gE_20_0 C G k_202 dX5_wipe_26 ?_
  refine lv_aload_n C.1 C.2.1 dX5_wipe_29 rfl (lv_at hl 0 rfl) ?_
  refine gE_20_0 C G k_202 dX5_wipe_30 ?_
  obtain ⟨r6, S6, eS6, hf⟩ := bnd_e hf
  refine r_cali (As := []) (na := 0) C adE G (mX2_count_21 l D a cI cJ tk tf S5 _ eS6) k_486 k_293 k_294 k_62 k_295 (q0 := 21) rfl (ci := 2) rfl (by decide +kernel) ⟨Nat.le_of_ble_eq_true rfl, Nat.le_of_ble_eq_true rfl⟩ rfl rfl ⟨Nat.zero_le _, Nat.zero_le _⟩ rfl hl.1 rfl (Nat.le_of_ble_eq_true rfl) dX5_wipe_33 (fun H locs G => ?_)
  obtain ⟨r7, S7, eS7, hf⟩ := bnd_e hf
  refine r_calv (As := [.int r6]) (na := 1) C adE G (mX2_takeOff_21 l D a cI cJ tk tf r6 S6 _ eS7) k_606 k_301 k_302 k_62 k_303 (q0 := 21) rfl (ci := 2) rfl (by decide +kernel) ⟨Nat.le_of_ble_eq_true rfl, Nat.le_of_ble_eq_true rfl⟩ rfl rfl ⟨Nat.zero_le _, Nat.zero_le _⟩ rfl hl.1 rfl (Nat.le_of_ble_eq_true rfl) dX5_wipe_36 (fun H locs G => ?_)
  exact r_vret C hr G hf dX5_wipe_39
