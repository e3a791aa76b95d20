theorem dX8_isError_0 : decode cX8_isError 0 = .ok (.iload_n 0, 1) := by decide +kernel
theorem dX8_isError_1 : decode cX8_isError 1 = .ok (.iconst 1, 1) := by decide +kernel
theorem dX8_isError_2 : decode cX8_isError 2 = .ok (.bipush 9, 2) := by decide +kernel
theorem dX8_isError_4 : decode cX8_isError 4 = .ok (.invokestatic 88, 3) := by decide +kernel
theorem dX8_isError_7 : decode cX8_isError 7 = .ok (.ifCond .ne 9, 3) := by decide +kernel
theorem dX8_isError_10 : decode cX8_isError 10 = .ok (.iload_n 0, 1) := by decide +kernel
theorem dX8_isError_11 : decode cX8_isError 11 = .ok (.bipush 11, 2) := by decide +kernel
theorem dX8_isError_13 : decode cX8_isError 13 = .ok (.if_icmp .ne 7, 3) := by decide +kernel
theorem dX8_isError_16 : decode cX8_isError 16 = .ok (.iconst 1, 1) := by decide +kernel
theorem dX8_isError_17 : decode cX8_isError 17 = .ok (.goto 4, 3) := by decide +kernel
theorem dX8_isError_20 : decode cX8_isError 20 = .ok (.iconst 0, 1) := by decide +kernel
theorem dX8_isError_21 : decode cX8_isError 21 = .ok (.ireturn, 1) := by decide +kernel
theorem dX8_isInRange_0 : decode cX8_isInRange 0 = .ok (.iload_n 1, 1) := by decide +kernel
theorem dX8_isInRange_1 : decode cX8_isInRange 1 = .ok (.tableswitch 184 10 27 #[87, 184, 184, 184, 184, 184, 184, 184, 184, 101, 115, 184, 184, 184, 184, 129, 164, 173], 87) := by decide +kernel
theorem dX8_isInRange_88 : decode cX8_isInRange 88 = .ok (.aload_n 0, 1) := by decide +kernel
theorem dX8_isInRange_89 : decode cX8_isInRange 89 = .ok (.iconst 0, 1) := by decide +kernel
theorem dX8_isInRange_90 : decode cX8_isInRange 90 = .ok (.invokevirtual 153, 3) := by decide +kernel
theorem dX8_isInRange_93 : decode cX8_isInRange 93 = .ok (.ifCond .lt 7, 3) := by decide +kernel
theorem dX8_isInRange_96 : decode cX8_isInRange 96 = .ok (.iconst 1, 1) := by decide +kernel
theorem dX8_isInRange_97 : decode cX8_isInRange 97 = .ok (.goto 4, 3) := by decide +kernel
theorem dX8_isInRange_100 : decode cX8_isInRange 100 = .ok (.iconst 0, 1) := by decide +kernel
theorem dX8_isInRange_101 : decode cX8_isInRange 101 = .ok (.ireturn, 1) := by decide +kernel
theorem dX8_isInRange_102 : decode cX8_isInRange 102 = .ok (.aload_n 0, 1) := by decide +kernel
theorem dX8_isInRange_103 : decode cX8_isInRange 103 = .ok (.iconst 1, 1) := by decide +kernel
theorem dX8_isInRange_104 : decode cX8_isInRange 104 = .ok (.invokevirtual 153, 3) := by decide +kernel
theorem dX8_isInRange_107 : decode cX8_isInRange 107 = .ok (.ifCond .lt 7, 3) := by decide +kernel
theorem dX8_isInRange_110 : decode cX8_isInRange 110 = .ok (.iconst 1, 1) := by decide +kernel
theorem dX8_isInRange_111 : decode cX8_isInRange 111 = .ok (.goto 4, 3) := by decide +kernel
theorem dX8_isInRange_114 : decode cX8_isInRange 114 = .ok (.iconst 0, 1) := by decide +kernel
theorem dX8_isInRange_115 : decode cX8_isInRange 115 = .ok (.ireturn, 1) := by decide +kernel
theorem dX8_isInRange_116 : decode cX8_isInRange 116 = .ok (.aload_n 0, 1) := by decide +kernel
theorem dX8_isInRange_117 : decode cX8_isInRange 117 = .ok (.iconst 2, 1) := by decide +kernel
theorem dX8_isInRange_118 : decode cX8_isInRange 118 = .ok (.invokevirtual 153, 3) := by decide +kernel
theorem dX8_isInRange_121 : decode cX8_isInRange 121 = .ok (.ifCond .eq 7, 3) := by decide +kernel
theorem dX8_isInRange_124 : decode cX8_isInRange 124 = .ok (.iconst 1, 1) := by decide +kernel
theorem dX8_isInRange_125 : decode cX8_isInRange 125 = .ok (.goto 4, 3) := by decide +kernel
theorem dX8_isInRange_128 : decode cX8_isInRange 128 = .ok (.iconst 0, 1) := by decide +kernel
theorem dX8_isInRange_129 : decode cX8_isInRange 129 = .ok (.ireturn, 1) := by decide +kernel
theorem dX8_isInRange_130 : decode cX8_isInRange 130 = .ok (.aload_n 0, 1) := by decide +kernel
theorem dX8_isInRange_131 : decode cX8_isInRange 131 = .ok (.iconst 1, 1) := by decide +kernel
theorem dX8_isInRange_132 : decode cX8_isInRange 132 = .ok (.invokevirtual 153, 3) := by decide +kernel
theorem dX8_isInRange_135 : decode cX8_isInRange 135 = .ok (.invokestatic 156, 3) := by decide +kernel
theorem dX8_isInRange_138 : decode cX8_isInRange 138 = .ok (.ifCond .eq 25, 3) := by decide +kernel
theorem dX8_isInRange_141 : decode cX8_isInRange 141 = .ok (.aload_n 0, 1) := by decide +kernel
theorem dX8_isInRange_142 : decode cX8_isInRange 142 = .ok (.iconst 0, 1) := by decide +kernel
theorem dX8_isInRange_143 : decode cX8_isInRange 143 = .ok (.invokevirtual 150, 3) := by decide +kernel
theorem dX8_isInRange_146 : decode cX8_isInRange 146 = .ok (.iconst 4, 1) := by decide +kernel
theorem dX8_isInRange_147 : decode cX8_isInRange 147 = .ok (.if_icmp .eq 12, 3) := by decide +kernel
theorem dX8_isInRange_150 : decode cX8_isInRange 150 = .ok (.aload_n 0, 1) := by decide +kernel
theorem dX8_isInRange_151 : decode cX8_isInRange 151 = .ok (.iconst 0, 1) := by decide +kernel
theorem dX8_isInRange_152 : decode cX8_isInRange 152 = .ok (.invokevirtual 153, 3) := by decide +kernel
theorem dX8_isInRange_155 : decode cX8_isInRange 155 = .ok (.iconst (-1), 1) := by decide +kernel
theorem dX8_isInRange_156 : decode cX8_isInRange 156 = .ok (.if_icmp .ne 7, 3) := by decide +kernel
theorem dX8_isInRange_159 : decode cX8_isInRange 159 = .ok (.iconst 1, 1) := by decide +kernel
theorem dX8_isInRange_160 : decode cX8_isInRange 160 = .ok (.goto 4, 3) := by decide +kernel
theorem dX8_isInRange_163 : decode cX8_isInRange 163 = .ok (.iconst 0, 1) := by decide +kernel
theorem dX8_isInRange_164 : decode cX8_isInRange 164 = .ok (.ireturn, 1) := by decide +kernel
theorem dX8_isInRange_165 : decode cX8_isInRange 165 = .ok (.aload_n 0, 1) := by decide +kernel
theorem dX8_isInRange_166 : decode cX8_isInRange 166 = .ok (.iconst 0, 1) := by decide +kernel
theorem dX8_isInRange_167 : decode cX8_isInRange 167 = .ok (.invokevirtual 153, 3) := by decide +kernel
theorem dX8_isInRange_170 : decode cX8_isInRange 170 = .ok (.invokestatic 156, 3) := by decide +kernel
theorem dX8_isInRange_173 : decode cX8_isInRange 173 = .ok (.ireturn, 1) := by decide +kernel
theorem dX8_isInRange_174 : decode cX8_isInRange 174 = .ok (.aload_n 0, 1) := by decide +kernel
theorem dX8_isInRange_175 : decode cX8_isInRange 175 = .ok (.iconst 0, 1) := by decide +kernel
theorem dX8_isInRange_176 : decode cX8_isInRange 176 = .ok (.invokevirtual 153, 3) := by decide +kernel
theorem dX8_isInRange_179 : decode cX8_isInRange 179 = .ok (.iconst 0, 1) := by decide +kernel
theorem dX8_isInRange_180 : decode cX8_isInRange 180 = .ok (.iconst 5, 1) := by decide +kernel
theorem dX8_isInRange_181 : decode cX8_isInRange 181 = .ok (.invokestatic 88, 3) := by decide +kernel
theorem dX8_isInRange_184 : decode cX8_isInRange 184 = .ok (.ireturn, 1) := by decide +kernel
theorem dX8_isInRange_185 : decode cX8_isInRange 185 = .ok (.iconst 1, 1) := by decide +kernel
theorem dX8_isInRange_186 : decode cX8_isInRange 186 = .ok (.ireturn, 1) := by decide +kernel
theorem dX8_mayBegin_0 : decode cX8_mayBegin 0 = .ok (.aload_n 0, 1) := by decide +kernel
theorem dX8_mayBegin_1 : decode cX8_mayBegin 1 = .ok (.getfield 103, 3) := by decide +kernel
theorem dX8_mayBegin_4 : decode cX8_mayBegin 4 = .ok (.bipush 30, 2) := by decide +kernel
theorem dX8_mayBegin_6 : decode cX8_mayBegin 6 = .ok (.if_icmp .lt 10, 3) := by decide +kernel
theorem dX8_mayBegin_9 : decode cX8_mayBegin 9 = .ok (.aload_n 0, 1) := by decide +kernel
theorem dX8_mayBegin_10 : decode cX8_mayBegin 10 = .ok (.invokevirtual 109, 3) := by decide +kernel
theorem dX8_mayBegin_13 : decode cX8_mayBegin 13 = .ok (.ifCond .eq 7, 3) := by decide +kernel
theorem dX8_mayBegin_16 : decode cX8_mayBegin 16 = .ok (.iconst 1, 1) := by decide +kernel
theorem dX8_mayBegin_17 : decode cX8_mayBegin 17 = .ok (.goto 4, 3) := by decide +kernel
theorem dX8_mayBegin_20 : decode cX8_mayBegin 20 = .ok (.iconst 0, 1) := by decide +kernel
theorem dX8_mayBegin_21 : decode cX8_mayBegin 21 = .ok (.ireturn, 1) := by decide +kernel
theorem dX8_hasFrames_0 : decode cX8_hasFrames 0 = .ok (.iload_n 1, 1) := by decide +kernel
theorem dX8_hasFrames_1 : decode cX8_hasFrames 1 = .ok (.bipush 16, 2) := by decide +kernel
theorem dX8_hasFrames_3 : decode cX8_hasFrames 3 = .ok (.bipush 18, 2) := by decide +kernel
theorem dX8_hasFrames_5 : decode cX8_hasFrames 5 = .ok (.invokestatic 88, 3) := by decide +kernel
theorem dX8_hasFrames_8 : decode cX8_hasFrames 8 = .ok (.ifCond .eq 24, 3) := by decide +kernel
theorem dX8_hasFrames_11 : decode cX8_hasFrames 11 = .ok (.aload_n 0, 1) := by decide +kernel
theorem dX8_hasFrames_12 : decode cX8_hasFrames 12 = .ok (.iload_n 1, 1) := by decide +kernel
theorem dX8_hasFrames_13 : decode cX8_hasFrames 13 = .ok (.invokevirtual 179, 3) := by decide +kernel
theorem dX8_hasFrames_16 : decode cX8_hasFrames 16 = .ok (.ifCond .lt 10, 3) := by decide +kernel
theorem dX8_hasFrames_19 : decode cX8_hasFrames 19 = .ok (.aload_n 0, 1) := by decide +kernel
theorem dX8_hasFrames_20 : decode cX8_hasFrames 20 = .ok (.invokevirtual 182, 3) := by decide +kernel
theorem dX8_hasFrames_23 : decode cX8_hasFrames 23 = .ok (.ifCond .eq 7, 3) := by decide +kernel
theorem dX8_hasFrames_26 : decode cX8_hasFrames 26 = .ok (.iconst 1, 1) := by decide +kernel
theorem dX8_hasFrames_27 : decode cX8_hasFrames 27 = .ok (.goto 4, 3) := by decide +kernel
theorem dX8_hasFrames_30 : decode cX8_hasFrames 30 = .ok (.iconst 0, 1) := by decide +kernel
theorem dX8_hasFrames_31 : decode cX8_hasFrames 31 = .ok (.ireturn, 1) := by decide +kernel
theorem dX8_hasFrames_32 : decode cX8_hasFrames 32 = .ok (.iload_n 1, 1) := by decide +kernel
theorem dX8_hasFrames_33 : decode cX8_hasFrames 33 = .ok (.bipush 19, 2) := by decide +kernel
theorem dX8_hasFrames_35 : decode cX8_hasFrames 35 = .ok (.bipush 21, 2) := by decide +kernel
theorem dX8_hasFrames_37 : decode cX8_hasFrames 37 = .ok (.invokestatic 88, 3) := by decide +kernel
theorem dX8_hasFrames_40 : decode cX8_hasFrames 40 = .ok (.ifCond .eq 12, 3) := by decide +kernel
theorem dX8_hasFrames_43 : decode cX8_hasFrames 43 = .ok (.aload_n 0, 1) := by decide +kernel
theorem dX8_hasFrames_44 : decode cX8_hasFrames 44 = .ok (.getfield 103, 3) := by decide +kernel
theorem dX8_hasFrames_47 : decode cX8_hasFrames 47 = .ok (.bipush 30, 2) := by decide +kernel
theorem dX8_hasFrames_49 : decode cX8_hasFrames 49 = .ok (.if_icmp .eq 22, 3) := by decide +kernel
theorem dX8_hasFrames_52 : decode cX8_hasFrames 52 = .ok (.iload_n 1, 1) := by decide +kernel
theorem dX8_hasFrames_53 : decode cX8_hasFrames 53 = .ok (.bipush 24, 2) := by decide +kernel
theorem dX8_hasFrames_55 : decode cX8_hasFrames 55 = .ok (.if_icmp .ne 12, 3) := by decide +kernel
theorem dX8_hasFrames_58 : decode cX8_hasFrames 58 = .ok (.aload_n 0, 1) := by decide +kernel
theorem dX8_hasFrames_59 : decode cX8_hasFrames 59 = .ok (.getfield 103, 3) := by decide +kernel
theorem dX8_hasFrames_62 : decode cX8_hasFrames 62 = .ok (.bipush 28, 2) := by decide +kernel
theorem dX8_hasFrames_64 : decode cX8_hasFrames 64 = .ok (.if_icmp .gt 7, 3) := by decide +kernel
theorem dX8_hasFrames_67 : decode cX8_hasFrames 67 = .ok (.iconst 1, 1) := by decide +kernel
theorem dX8_hasFrames_68 : decode cX8_hasFrames 68 = .ok (.goto 4, 3) := by decide +kernel
theorem dX8_hasFrames_71 : decode cX8_hasFrames 71 = .ok (.iconst 0, 1) := by decide +kernel
theorem dX8_hasFrames_72 : decode cX8_hasFrames 72 = .ok (.ireturn, 1) := by decide +kernel
theorem dX8_wrong_0 : decode cX8_wrong 0 = .ok (.aload_n 0, 1) := by decide +kernel
theorem dX8_wrong_1 : decode cX8_wrong 1 = .ok (.getfield 96, 3) := by decide +kernel
theorem dX8_wrong_4 : decode cX8_wrong 4 = .ok (.iload_n 1, 1) := by decide +kernel
theorem dX8_wrong_5 : decode cX8_wrong 5 = .ok (.invokestatic 160, 3) := by decide +kernel
theorem dX8_wrong_8 : decode cX8_wrong 8 = .ok (.if_icmp .ge 5, 3) := by decide +kernel
theorem dX8_wrong_11 : decode cX8_wrong 11 = .ok (.iconst 1, 1) := by decide +kernel
theorem dX8_wrong_12 : decode cX8_wrong 12 = .ok (.ireturn, 1) := by decide +kernel
theorem dX8_wrong_13 : decode cX8_wrong 13 = .ok (.iload_n 1, 1) := by decide +kernel
theorem dX8_wrong_14 : decode cX8_wrong 14 = .ok (.bipush 10, 2) := by decide +kernel
theorem dX8_wrong_16 : decode cX8_wrong 16 = .ok (.if_icmp .ne 23, 3) := by decide +kernel
theorem dX8_wrong_19 : decode cX8_wrong 19 = .ok (.aload_n 0, 1) := by decide +kernel
theorem dX8_wrong_20 : decode cX8_wrong 20 = .ok (.iconst 0, 1) := by decide +kernel
theorem dX8_wrong_21 : decode cX8_wrong 21 = .ok (.invokevirtual 150, 3) := by decide +kernel
theorem dX8_wrong_24 : decode cX8_wrong 24 = .ok (.ifCond .ne 15, 3) := by decide +kernel
theorem dX8_wrong_27 : decode cX8_wrong 27 = .ok (.aload_n 0, 1) := by decide +kernel
theorem dX8_wrong_28 : decode cX8_wrong 28 = .ok (.iconst 0, 1) := by decide +kernel
theorem dX8_wrong_29 : decode cX8_wrong 29 = .ok (.invokevirtual 153, 3) := by decide +kernel
theorem dX8_wrong_32 : decode cX8_wrong 32 = .ok (.ifCond .lt 7, 3) := by decide +kernel
theorem dX8_wrong_35 : decode cX8_wrong 35 = .ok (.iconst 1, 1) := by decide +kernel
theorem dX8_wrong_36 : decode cX8_wrong 36 = .ok (.goto 4, 3) := by decide +kernel
theorem dX8_wrong_39 : decode cX8_wrong 39 = .ok (.iconst 0, 1) := by decide +kernel
theorem dX8_wrong_40 : decode cX8_wrong 40 = .ok (.istore_n 2, 1) := by decide +kernel
theorem dX8_wrong_41 : decode cX8_wrong 41 = .ok (.iload_n 2, 1) := by decide +kernel
theorem dX8_wrong_42 : decode cX8_wrong 42 = .ok (.ifCond .eq 19, 3) := by decide +kernel
theorem dX8_wrong_45 : decode cX8_wrong 45 = .ok (.aload_n 0, 1) := by decide +kernel
theorem dX8_wrong_46 : decode cX8_wrong 46 = .ok (.iconst 0, 1) := by decide +kernel
theorem dX8_wrong_47 : decode cX8_wrong 47 = .ok (.invokevirtual 153, 3) := by decide +kernel
theorem dX8_wrong_50 : decode cX8_wrong 50 = .ok (.aload_n 0, 1) := by decide +kernel
theorem dX8_wrong_51 : decode cX8_wrong 51 = .ok (.getfield 96, 3) := by decide +kernel
theorem dX8_wrong_54 : decode cX8_wrong 54 = .ok (.iconst 2, 1) := by decide +kernel
theorem dX8_wrong_55 : decode cX8_wrong 55 = .ok (.isub, 1) := by decide +kernel
theorem dX8_wrong_56 : decode cX8_wrong 56 = .ok (.if_icmp .le 5, 3) := by decide +kernel
theorem dX8_wrong_59 : decode cX8_wrong 59 = .ok (.iconst 1, 1) := by decide +kernel
theorem dX8_wrong_60 : decode cX8_wrong 60 = .ok (.ireturn, 1) := by decide +kernel
theorem dX8_wrong_61 : decode cX8_wrong 61 = .ok (.aload_n 0, 1) := by decide +kernel
theorem dX8_wrong_62 : decode cX8_wrong 62 = .ok (.iload_n 1, 1) := by decide +kernel
theorem dX8_wrong_63 : decode cX8_wrong 63 = .ok (.invokevirtual 163, 3) := by decide +kernel
theorem dX8_wrong_66 : decode cX8_wrong 66 = .ok (.ifCond .ne 5, 3) := by decide +kernel
theorem dX8_wrong_69 : decode cX8_wrong 69 = .ok (.iconst 3, 1) := by decide +kernel
theorem dX8_wrong_70 : decode cX8_wrong 70 = .ok (.ireturn, 1) := by decide +kernel
theorem dX8_wrong_71 : decode cX8_wrong 71 = .ok (.iload_n 1, 1) := by decide +kernel
theorem dX8_wrong_72 : decode cX8_wrong 72 = .ok (.bipush 12, 2) := by decide +kernel
theorem dX8_wrong_74 : decode cX8_wrong 74 = .ok (.if_icmp .eq 9, 3) := by decide +kernel
theorem dX8_wrong_77 : decode cX8_wrong 77 = .ok (.iload_n 1, 1) := by decide +kernel
theorem dX8_wrong_78 : decode cX8_wrong 78 = .ok (.bipush 13, 2) := by decide +kernel
theorem dX8_wrong_80 : decode cX8_wrong 80 = .ok (.if_icmp .ne 13, 3) := by decide +kernel
theorem dX8_wrong_83 : decode cX8_wrong 83 = .ok (.aload_n 0, 1) := by decide +kernel
theorem dX8_wrong_84 : decode cX8_wrong 84 = .ok (.invokevirtual 166, 3) := by decide +kernel
theorem dX8_wrong_87 : decode cX8_wrong 87 = .ok (.ifCond .ge 6, 3) := by decide +kernel
theorem dX8_wrong_90 : decode cX8_wrong 90 = .ok (.bipush 7, 2) := by decide +kernel
theorem dX8_wrong_92 : decode cX8_wrong 92 = .ok (.ireturn, 1) := by decide +kernel
theorem dX8_wrong_93 : decode cX8_wrong 93 = .ok (.aload_n 0, 1) := by decide +kernel
theorem dX8_wrong_94 : decode cX8_wrong 94 = .ok (.iload_n 1, 1) := by decide +kernel
theorem dX8_wrong_95 : decode cX8_wrong 95 = .ok (.invokevirtual 170, 3) := by decide +kernel
theorem dX8_wrong_98 : decode cX8_wrong 98 = .ok (.ifCond .ne 5, 3) := by decide +kernel
theorem dX8_wrong_101 : decode cX8_wrong 101 = .ok (.iconst 4, 1) := by decide +kernel
theorem dX8_wrong_102 : decode cX8_wrong 102 = .ok (.ireturn, 1) := by decide +kernel
theorem dX8_wrong_103 : decode cX8_wrong 103 = .ok (.iload_n 1, 1) := by decide +kernel
theorem dX8_wrong_104 : decode cX8_wrong 104 = .ok (.bipush 15, 2) := by decide +kernel
theorem dX8_wrong_106 : decode cX8_wrong 106 = .ok (.if_icmp .eq 18, 3) := by decide +kernel
theorem dX8_wrong_109 : decode cX8_wrong 109 = .ok (.iload_n 1, 1) := by decide +kernel
theorem dX8_wrong_110 : decode cX8_wrong 110 = .ok (.bipush 16, 2) := by decide +kernel
theorem dX8_wrong_112 : decode cX8_wrong 112 = .ok (.if_icmp .ne 16, 3) := by decide +kernel
theorem dX8_wrong_115 : decode cX8_wrong 115 = .ok (.aload_n 0, 1) := by decide +kernel
theorem dX8_wrong_116 : decode cX8_wrong 116 = .ok (.iconst 0, 1) := by decide +kernel
theorem dX8_wrong_117 : decode cX8_wrong 117 = .ok (.invokevirtual 150, 3) := by decide +kernel
theorem dX8_wrong_120 : decode cX8_wrong 120 = .ok (.iconst 2, 1) := by decide +kernel
theorem dX8_wrong_121 : decode cX8_wrong 121 = .ok (.if_icmp .ne 7, 3) := by decide +kernel
theorem dX8_wrong_124 : decode cX8_wrong 124 = .ok (.iconst 1, 1) := by decide +kernel
theorem dX8_wrong_125 : decode cX8_wrong 125 = .ok (.goto 4, 3) := by decide +kernel
theorem dX8_wrong_128 : decode cX8_wrong 128 = .ok (.iconst 0, 1) := by decide +kernel
theorem dX8_wrong_129 : decode cX8_wrong 129 = .ok (.istore_n 3, 1) := by decide +kernel
theorem dX8_wrong_130 : decode cX8_wrong 130 = .ok (.iload_n 3, 1) := by decide +kernel
theorem dX8_wrong_131 : decode cX8_wrong 131 = .ok (.ifCond .eq 19, 3) := by decide +kernel
theorem dX8_wrong_134 : decode cX8_wrong 134 = .ok (.aload_n 0, 1) := by decide +kernel
theorem dX8_wrong_135 : decode cX8_wrong 135 = .ok (.getfield 25, 3) := by decide +kernel
theorem dX8_wrong_138 : decode cX8_wrong 138 = .ok (.aload_n 0, 1) := by decide +kernel
theorem dX8_wrong_139 : decode cX8_wrong 139 = .ok (.iconst 0, 1) := by decide +kernel
theorem dX8_wrong_140 : decode cX8_wrong 140 = .ok (.invokevirtual 153, 3) := by decide +kernel
theorem dX8_wrong_143 : decode cX8_wrong 143 = .ok (.iaload, 1) := by decide +kernel
theorem dX8_wrong_144 : decode cX8_wrong 144 = .ok (.iconst (-1), 1) := by decide +kernel
theorem dX8_wrong_145 : decode cX8_wrong 145 = .ok (.if_icmp .ne 5, 3) := by decide +kernel
theorem dX8_wrong_148 : decode cX8_wrong 148 = .ok (.iconst 5, 1) := by decide +kernel
theorem dX8_wrong_149 : decode cX8_wrong 149 = .ok (.ireturn, 1) := by decide +kernel
theorem dX8_wrong_150 : decode cX8_wrong 150 = .ok (.iload_n 1, 1) := by decide +kernel
theorem dX8_wrong_151 : decode cX8_wrong 151 = .ok (.iconst 3, 1) := by decide +kernel
theorem dX8_wrong_152 : decode cX8_wrong 152 = .ok (.if_icmp .ne 14, 3) := by decide +kernel
theorem dX8_wrong_155 : decode cX8_wrong 155 = .ok (.aload_n 0, 1) := by decide +kernel
theorem dX8_wrong_156 : decode cX8_wrong 156 = .ok (.iconst 0, 1) := by decide +kernel
theorem dX8_wrong_157 : decode cX8_wrong 157 = .ok (.invokevirtual 153, 3) := by decide +kernel
theorem dX8_wrong_160 : decode cX8_wrong 160 = .ok (.ifCond .ne 6, 3) := by decide +kernel
theorem dX8_wrong_163 : decode cX8_wrong 163 = .ok (.bipush 6, 2) := by decide +kernel
theorem dX8_wrong_165 : decode cX8_wrong 165 = .ok (.ireturn, 1) := by decide +kernel
theorem dX8_wrong_166 : decode cX8_wrong 166 = .ok (.iload_n 1, 1) := by decide +kernel
theorem dX8_wrong_167 : decode cX8_wrong 167 = .ok (.bipush 22, 2) := by decide +kernel
theorem dX8_wrong_169 : decode cX8_wrong 169 = .ok (.if_icmp .ne 13, 3) := by decide +kernel
theorem dX8_wrong_172 : decode cX8_wrong 172 = .ok (.aload_n 0, 1) := by decide +kernel
theorem dX8_wrong_173 : decode cX8_wrong 173 = .ok (.invokevirtual 173, 3) := by decide +kernel
theorem dX8_wrong_176 : decode cX8_wrong 176 = .ok (.ifCond .ge 6, 3) := by decide +kernel
theorem dX8_wrong_179 : decode cX8_wrong 179 = .ok (.bipush 9, 2) := by decide +kernel
theorem dX8_wrong_181 : decode cX8_wrong 181 = .ok (.ireturn, 1) := by decide +kernel
theorem dX8_wrong_182 : decode cX8_wrong 182 = .ok (.aload_n 0, 1) := by decide +kernel
theorem dX8_wrong_183 : decode cX8_wrong 183 = .ok (.iload_n 1, 1) := by decide +kernel
theorem dX8_wrong_184 : decode cX8_wrong 184 = .ok (.invokevirtual 176, 3) := by decide +kernel
theorem dX8_wrong_187 : decode cX8_wrong 187 = .ok (.ifCond .ne 6, 3) := by decide +kernel
theorem dX8_wrong_190 : decode cX8_wrong 190 = .ok (.bipush 8, 2) := by decide +kernel
theorem dX8_wrong_192 : decode cX8_wrong 192 = .ok (.ireturn, 1) := by decide +kernel
theorem dX8_wrong_193 : decode cX8_wrong 193 = .ok (.iload_n 1, 1) := by decide +kernel
theorem dX8_wrong_194 : decode cX8_wrong 194 = .ok (.bipush 8, 2) := by decide +kernel
theorem dX8_wrong_196 : decode cX8_wrong 196 = .ok (.if_icmp .eq 15, 3) := by decide +kernel
theorem dX8_wrong_199 : decode cX8_wrong 199 = .ok (.iload_n 1, 1) := by decide +kernel
theorem dX8_wrong_200 : decode cX8_wrong 200 = .ok (.bipush 11, 2) := by decide +kernel
theorem dX8_wrong_202 : decode cX8_wrong 202 = .ok (.if_icmp .eq 9, 3) := by decide +kernel
theorem dX8_wrong_205 : decode cX8_wrong 205 = .ok (.iload_n 1, 1) := by decide +kernel
theorem dX8_wrong_206 : decode cX8_wrong 206 = .ok (.bipush 12, 2) := by decide +kernel
theorem dX8_wrong_208 : decode cX8_wrong 208 = .ok (.if_icmp .ne 16, 3) := by decide +kernel
theorem dX8_wrong_211 : decode cX8_wrong 211 = .ok (.aload_n 0, 1) := by decide +kernel
theorem dX8_wrong_212 : decode cX8_wrong 212 = .ok (.getfield 96, 3) := by decide +kernel
theorem dX8_wrong_215 : decode cX8_wrong 215 = .ok (.bipush 60, 2) := by decide +kernel
theorem dX8_wrong_217 : decode cX8_wrong 217 = .ok (.if_icmp .ne 7, 3) := by decide +kernel
theorem dX8_wrong_220 : decode cX8_wrong 220 = .ok (.iconst 2, 1) := by decide +kernel
theorem dX8_wrong_221 : decode cX8_wrong 221 = .ok (.goto 4, 3) := by decide +kernel
theorem dX8_wrong_224 : decode cX8_wrong 224 = .ok (.iconst 0, 1) := by decide +kernel
theorem dX8_wrong_225 : decode cX8_wrong 225 = .ok (.ireturn, 1) := by decide +kernel
def fX8_isError_16 (S : St) : Option (Int32 × St) :=
    some ((1 : Int32), S)
def fX8_isError (p1 : Int32) (S : St) : Option (Int32 × St) :=
  bnd (fX8_in p1 (1 : Int32) (9 : Int32) S) fun r1 S1 =>
  if r1 = 0 then
    if p1 = (11 : Int32) then
      fX8_isError_16 S1
    else
      some ((0 : Int32), S1)
  else
    fX8_isError_16 S1
def fX8_isInRange_0_185 (S : St) : Option (Int32 × St) :=
    some ((1 : Int32), S)
def fX8_isInRange_0_163 (S : St) : Option (Int32 × St) :=
    some ((0 : Int32), S)
def fX8_isInRange_0_159 (S : St) : Option (Int32 × St) :=
    some ((1 : Int32), S)
def fX8_isInRange_0 (p1 : Int32) (S : St) : Option (Int32 × St) :=
  if p1 = 10 then
    bnd (fX8_number_0 (0 : Int32) S) fun r2 S2 =>
    if r2 < 0 then
      some ((0 : Int32), S2)
    else
      some ((1 : Int32), S2)
  else
    if p1 = 11 then
      fX8_isInRange_0_185 S
    else
      if p1 = 12 then
        fX8_isInRange_0_185 S
      else
        if p1 = 13 then
          fX8_isInRange_0_185 S
        else
          if p1 = 14 then
            fX8_isInRange_0_185 S
          else
            if p1 = 15 then
              fX8_isInRange_0_185 S
            else
              if p1 = 16 then
                fX8_isInRange_0_185 S
              else
                if p1 = 17 then
                  fX8_isInRange_0_185 S
                else
                  if p1 = 18 then
                    fX8_isInRange_0_185 S
                  else
                    if p1 = 19 then
                      bnd (fX8_number_0 (1 : Int32) S) fun r13 S13 =>
                      if r13 < 0 then
                        some ((0 : Int32), S13)
                      else
                        some ((1 : Int32), S13)
                    else
                      if p1 = 20 then
                        bnd (fX8_number_0 (2 : Int32) S) fun r16 S16 =>
                        if r16 = 0 then
                          some ((0 : Int32), S16)
                        else
                          some ((1 : Int32), S16)
                      else
                        if p1 = 21 then
                          fX8_isInRange_0_185 S
                        else
                          if p1 = 22 then
                            fX8_isInRange_0_185 S
                          else
                            if p1 = 23 then
                              fX8_isInRange_0_185 S
                            else
                              if p1 = 24 then
                                fX8_isInRange_0_185 S
                              else
                                if p1 = 25 then
                                  bnd (fX8_number_0 (1 : Int32) S) fun r23 S23 =>
                                  bnd (fX8_isError r23 S23) fun r24 S24 =>
                                  if r24 = 0 then
                                    fX8_isInRange_0_163 S24
                                  else
                                    bnd (fX8_kind_0 (0 : Int32) S24) fun r26 S26 =>
                                    if r26 = (4 : Int32) then
                                      fX8_isInRange_0_159 S26
                                    else
                                      bnd (fX8_number_0 (0 : Int32) S26) fun r28 S28 =>
                                      if r28 = (-1 : Int32) then
                                        fX8_isInRange_0_159 S28
                                      else
                                        fX8_isInRange_0_163 S28
                                else
                                  if p1 = 26 then
                                    bnd (fX8_number_0 (0 : Int32) S) fun r31 S31 =>
                                    bnd (fX8_isError r31 S31) fun r32 S32 =>
                                    if r32 = 0 ∨ r32 = 1 then
                                    some (r32, S32)
                                    else none
                                  else
                                    if p1 = 27 then
                                      bnd (fX8_number_0 (0 : Int32) S) fun r35 S35 =>
                                      bnd (fX8_in r35 (0 : Int32) (5 : Int32) S35) fun r36 S36 =>
                                      if r36 = 0 ∨ r36 = 1 then
                                      some (r36, S36)
                                      else none
                                    else
                                      fX8_isInRange_0_185 S
def fX8_mayBegin_0_16 (S : St) : Option (Int32 × St) :=
    some ((1 : Int32), S)
def fX8_mayBegin_0 (S : St) : Option (Int32 × St) :=
  if (S.1 0 19) < (30 : Int32) then
    fX8_mayBegin_0_16 S
  else
    bnd (fX8_isSpent_0 S) fun r2 S2 =>
    if r2 = 0 then
      some ((0 : Int32), S2)
    else
      fX8_mayBegin_0_16 S2
def fX8_hasFrames_0_71 (S : St) : Option (Int32 × St) :=
    some ((0 : Int32), S)
def fX8_hasFrames_0_67 (S : St) : Option (Int32 × St) :=
    some ((1 : Int32), S)
def fX8_hasFrames_0_52 (q1 : Int32) (S : St) : Option (Int32 × St) :=
    if q1 = (24 : Int32) then
      if (28 : Int32) < (S.1 0 19) then
        fX8_hasFrames_0_71 S
      else
        fX8_hasFrames_0_67 S
    else
      fX8_hasFrames_0_67 S
def fX8_hasFrames_0_26 (S : St) : Option (Int32 × St) :=
    some ((1 : Int32), S)
def fX8_hasFrames_0 (p1 : Int32) (S : St) : Option (Int32 × St) :=
  bnd (fX8_in p1 (16 : Int32) (18 : Int32) S) fun r1 S1 =>
  if r1 = 0 then
    bnd (fX8_in p1 (19 : Int32) (21 : Int32) S1) fun r3 S3 =>
    if r3 = 0 then
      fX8_hasFrames_0_52 p1 S3
    else
      if (S3.1 0 19) = (30 : Int32) then
        fX8_hasFrames_0_71 S3
      else
        fX8_hasFrames_0_52 p1 S3
  else
    bnd (fX8_procedureOf_0 p1 S1) fun r6 S6 =>
    if r6 < 0 then
      fX8_hasFrames_0_26 S6
    else
      bnd (fX8_mayBegin_0 S6) fun r8 S8 =>
      if r8 = 0 then
        some ((0 : Int32), S8)
      else
        fX8_hasFrames_0_26 S8
def fX8_wrong_0_224 (S : St) : Option (Int32 × St) :=
    some ((0 : Int32), S)
def fX8_wrong_0_211 (S : St) : Option (Int32 × St) :=
    if (S.1 0 6) = (60 : Int32) then
      some ((2 : Int32), S)
    else
      fX8_wrong_0_224 S
def fX8_wrong_0_182 (q1 : Int32) (S : St) : Option (Int32 × St) :=
    bnd (fX8_hasFrames_0 q1 S) fun r1 S1 =>
    if r1 = 0 then
      some ((8 : Int32), S1)
    else
      if q1 = (8 : Int32) then
        fX8_wrong_0_211 S1
      else
        if q1 = (11 : Int32) then
          fX8_wrong_0_211 S1
        else
          if q1 = (12 : Int32) then
            fX8_wrong_0_211 S1
          else
            fX8_wrong_0_224 S1
def fX8_wrong_0_166 (q1 : Int32) (S : St) : Option (Int32 × St) :=
    if q1 = (22 : Int32) then
      bnd (fX8_loop_0 S) fun r2 S2 =>
      if 0 ≤ r2 then
        fX8_wrong_0_182 q1 S2
      else
        some ((9 : Int32), S2)
    else
      fX8_wrong_0_182 q1 S
def fX8_wrong_0_150 (q1 : Int32) (S : St) : Option (Int32 × St) :=
    if q1 = (3 : Int32) then
      bnd (fX8_number_0 (0 : Int32) S) fun r2 S2 =>
      if r2 = 0 then
        some ((6 : Int32), S2)
      else
        fX8_wrong_0_166 q1 S2
    else
      fX8_wrong_0_166 q1 S
def fX8_wrong_0_129 (q1 : Int32) (z0 : Int32) (S : St) : Option (Int32 × St) :=
    if z0 = 0 then
      fX8_wrong_0_150 q1 S
    else
      bnd (fX8_number_0 (0 : Int32) S) fun r2 S2 =>
      if vq r2 40 then
      if (S2.1 6 r2.toNatClampNeg) = (-1 : Int32) then
        some ((5 : Int32), S2)
      else
        fX8_wrong_0_150 q1 S2
      else none
def fX8_wrong_0_124 (q1 : Int32) (S : St) : Option (Int32 × St) :=
    fX8_wrong_0_129 q1 (1 : Int32) S
def fX8_wrong_0_128 (q1 : Int32) (S : St) : Option (Int32 × St) :=
    fX8_wrong_0_129 q1 (0 : Int32) S
def fX8_wrong_0_93 (q1 : Int32) (S : St) : Option (Int32 × St) :=
    bnd (fX8_isInRange_0 q1 S) fun r1 S1 =>
    if r1 = 0 then
      some ((4 : Int32), S1)
    else
      if q1 = (15 : Int32) then
        fX8_wrong_0_124 q1 S1
      else
        if q1 = (16 : Int32) then
          bnd (fX8_kind_0 (0 : Int32) S1) fun r5 S5 =>
          if r5 = (2 : Int32) then
            fX8_wrong_0_124 q1 S5
          else
            fX8_wrong_0_128 q1 S5
        else
          fX8_wrong_0_128 q1 S1
def fX8_wrong_0_83 (q1 : Int32) (S : St) : Option (Int32 × St) :=
    bnd (fX8_mark_0 S) fun r1 S1 =>
    if 0 ≤ r1 then
      fX8_wrong_0_93 q1 S1
    else
      some ((7 : Int32), S1)
def fX8_wrong_0_61 (q1 : Int32) (S : St) : Option (Int32 × St) :=
    bnd (fX8_areKinds_0 q1 S) fun r1 S1 =>
    if r1 = 0 then
      some ((3 : Int32), S1)
    else
      if q1 = (12 : Int32) then
        fX8_wrong_0_83 q1 S1
      else
        if q1 = (13 : Int32) then
          fX8_wrong_0_83 q1 S1
        else
          fX8_wrong_0_93 q1 S1
def fX8_wrong_0_40 (q1 : Int32) (z0 : Int32) (S : St) : Option (Int32 × St) :=
    if z0 = 0 then
      fX8_wrong_0_61 q1 S
    else
      bnd (fX8_number_0 (0 : Int32) S) fun r2 S2 =>
      if r2 ≤ ((S2.1 0 6) - (2 : Int32)) then
        fX8_wrong_0_61 q1 S2
      else
        some ((1 : Int32), S2)
def fX8_wrong_0_39 (q1 : Int32) (S : St) : Option (Int32 × St) :=
    fX8_wrong_0_40 q1 (0 : Int32) S
def fX8_wrong_0 (p1 : Int32) (S : St) : Option (Int32 × St) :=
  bnd (fX8_takes p1 S) fun r1 S1 =>
  if r1 ≤ (S.1 0 6) then
    if p1 = (10 : Int32) then
      bnd (fX8_kind_0 (0 : Int32) S1) fun r4 S4 =>
      if r4 = 0 then
        bnd (fX8_number_0 (0 : Int32) S4) fun r6 S6 =>
        if r6 < 0 then
          fX8_wrong_0_39 p1 S6
        else
          fX8_wrong_0_40 p1 (1 : Int32) S6
      else
        fX8_wrong_0_39 p1 S4
    else
      fX8_wrong_0_39 p1 S1
  else
    some ((1 : Int32), S1)
set_option maxRecDepth 100000 in
set_option maxHeartbeats 4000000 in
theorem rX8_isError_16 {p : Program} {l : Launch} {e : Env} {s : State} {m : MethodId} {args : Array Value} {below : List Frame} {meth : Method} {c : Code} {D : va_G} {a : Nat → Nat} {cI cJ : ClassId} {tk : Nat} {tf : Nat → Int32} (C : Cx p s m args meth c RX8 cX8_isError 1 D cI cJ tk tf (AR a 17 s.heap.size)) (hr : meth.sig.returnType = (some .boolean)) : ∀ (S : St) (x : Int32 × St) (H : Heap) (locs : List Loc) (ls : Array Slot), fX8_isError_16 S = some x → Wd D (wM a cI cJ) (AR a 17 s.heap.size) s S H locs → lv_has ls 1 [] → W p l e { frames := 1, cells := 0, slots := 0, locals := 22 } s m args below meth c H locs 0 0 (MQ below (Qi D (wM a cI cJ) (AR a 17 s.heap.size) x) args s 0 0 (AR a 17 s.heap.size)) (F0 m 16 ls []) := by
  intro S x H locs ls hf G hl
  unfold fX8_isError_16 at hf
  refine lv_iconst (v := 1) C.1 C.2.1 dX8_isError_16 (by decide) ?_
  refine lv_goto (tgt := 21) C.1 C.2.1 dX8_isError_17 (by decide) ?_
  exact r_zret C hr (Or.inr rfl) G hf dX8_isError_21
set_option maxRecDepth 100000 in
set_option maxHeartbeats 4000000 in
theorem mX8_isError (l : Launch) (D : va_G) (a : Nat → Nat) (cI cJ : ClassId) (tk : Nat) (tf : Nat → Int32) (p1 : Int32) (S : St) (x : Int32 × St) (hf : fX8_isError p1 S = some x) : Mi l D (wM a cI cJ) a 17 cI cJ tk tf yX8_isError cX8_isError 1 (some .boolean) { frames := 1, cells := 0, slots := 0, locals := 22 } [.int p1] S x := by
  refine opn_i (by decide +kernel) (Nat.le_of_ble_eq_true rfl) (fun p e s m below meth c C hr G ls hl => ?_)
  replace hl : lv_has ls 1 [(0, .int p1)] := hl
  unfold fX8_isError at hf
  refine lv_iload_n C.1 C.2.1 dX8_isError_0 rfl (lv_at hl 0 rfl) ?_
  refine lv_iconst (v := 1) C.1 C.2.1 dX8_isError_1 (by decide) ?_
  refine lv_bipush (v := 9) C.1 C.2.1 dX8_isError_2 (by decide) ?_
  obtain ⟨r1, S1, eS1, hf⟩ := bnd_e hf
  refine r_cals (As := [.int p1, .int (1 : Int32), .int (9 : Int32)]) (na := 3) C adM G (mX8_in l D a cI cJ tk tf p1 (1 : Int32) (9 : Int32) S _ eS1) k_857 k_858 k_68 k_859 (by decide +kernel) ⟨Nat.le_of_ble_eq_true rfl, Nat.le_of_ble_eq_true rfl⟩ rfl rfl ⟨Nat.zero_le _, Nat.zero_le _⟩ rfl hl.1 rfl (Nat.le_of_ble_eq_true rfl) dX8_isError_4 (fun H locs G => ?_)
  refine lv_if_ne (tgt := 16) C.1 C.2.1 dX8_isError_7 (by decide) (fun c2 => ?_) (fun c2 => ?_)
  · replace hf := ifq c2 hf
    exact rX8_isError_16 C hr S1 _ _ _ _ hf G (lv_sub hl [] rfl)
  · replace hf := ifp c2 hf
    refine lv_iload_n C.1 C.2.1 dX8_isError_10 rfl (lv_at hl 0 rfl) ?_
    refine lv_bipush (v := 11) C.1 C.2.1 dX8_isError_11 (by decide) ?_
    refine lv_icmp_ne (tgt := 20) C.1 C.2.1 dX8_isError_13 (by decide) (fun c3 => ?_) (fun c3 => ?_)
    · replace hf := ifq c3 hf
      refine lv_iconst (v := 0) C.1 C.2.1 dX8_isError_20 (by decide) ?_
      exact r_zret C hr (Or.inl rfl) G hf dX8_isError_21
    · replace hf := ifp c3 hf
      exact rX8_isError_16 C hr S1 _ _ _ _ hf G (lv_sub hl [] rfl)
set_option maxRecDepth 100000 in
set_option maxHeartbeats 4000000 in
theorem rX8_isInRange_0_185 {p : Program} {l : Launch} {e : Env} {s : State} {m : MethodId} {args : Array Value} {below : List Frame} {meth : Method} {c : Code} {D : va_G} {a : Nat → Nat} {cI cJ : ClassId} {tk : Nat} {tf : Nat → Int32} (C : Cx p s m args meth c RX8 cX8_isInRange 2 D cI cJ tk tf (AR a 17 s.heap.size)) (hr : meth.sig.returnType = (some .boolean)) : ∀ (S : St) (x : Int32 × St) (H : Heap) (locs : List Loc) (ls : Array Slot), fX8_isInRange_0_185 S = some x → Wd D (wM a cI cJ) (AR a 17 s.heap.size) s S H locs → lv_has ls 2 [] → W p l e { frames := 2, cells := 0, slots := 0, locals := 42 } s m args below meth c H locs 0 0 (MQ below (Qi D (wM a cI cJ) (AR a 17 s.heap.size) x) args s 0 0 (AR a 17 s.heap.size)) (F0 m 185 ls []) := by
  intro S x H locs ls hf G hl
  unfold fX8_isInRange_0_185 at hf
  refine lv_iconst (v := 1) C.1 C.2.1 dX8_isInRange_185 (by decide) ?_
  exact r_zret C hr (Or.inr rfl) G hf dX8_isInRange_186
set_option maxRecDepth 100000 in
set_option maxHeartbeats 4000000 in
theorem rX8_isInRange_0_163 {p : Program} {l : Launch} {e : Env} {s : State} {m : MethodId} {args : Array Value} {below : List Frame} {meth : Method} {c : Code} {D : va_G} {a : Nat → Nat} {cI cJ : ClassId} {tk : Nat} {tf : Nat → Int32} (C : Cx p s m args meth c RX8 cX8_isInRange 2 D cI cJ tk tf (AR a 17 s.heap.size)) (hr : meth.sig.returnType = (some .boolean)) : ∀ (S : St) (x : Int32 × St) (H : Heap) (locs : List Loc) (ls : Array Slot), fX8_isInRange_0_163 S = some x → Wd D (wM a cI cJ) (AR a 17 s.heap.size) s S H locs → lv_has ls 2 [] → W p l e { frames := 2, cells := 0, slots := 0, locals := 42 } s m args below meth c H locs 0 0 (MQ below (Qi D (wM a cI cJ) (AR a 17 s.heap.size) x) args s 0 0 (AR a 17 s.heap.size)) (F0 m 163 ls []) := by
  intro S x H locs ls hf G hl
  unfold fX8_isInRange_0_163 at hf
  refine lv_iconst (v := 0) C.1 C.2.1 dX8_isInRange_163 (by decide) ?_
  exact r_zret C hr (Or.inl rfl) G hf dX8_isInRange_164
set_option maxRecDepth 100000 in
set_option maxHeartbeats 4000000 in
theorem rX8_isInRange_0_159 {p : Program} {l : Launch} {e : Env} {s : State} {m : MethodId} {args : Array Value} {below : List Frame} {meth : Method} {c : Code} {D : va_G} {a : Nat → Nat} {cI cJ : ClassId} {tk : Nat} {tf : Nat → Int32} (C : Cx p s m args meth c RX8 cX8_isInRange 2 D cI cJ tk tf (AR a 17 s.heap.size)) (hr : meth.sig.returnType = (some .boolean)) : ∀ (S : St) (x : Int32 × St) (H : Heap) (locs : List Loc) (ls : Array Slot), fX8_isInRange_0_159 S = some x → Wd D (wM a cI cJ) (AR a 17 s.heap.size) s S H locs → lv_has ls 2 [] → W p l e { frames := 2, cells := 0, slots := 0, locals := 42 } s m args below meth c H locs 0 0 (MQ below (Qi D (wM a cI cJ) (AR a 17 s.heap.size) x) args s 0 0 (AR a 17 s.heap.size)) (F0 m 159 ls []) := by
  intro S x H locs ls hf G hl
  unfold fX8_isInRange_0_159 at hf
  refine lv_iconst (v := 1) C.1 C.2.1 dX8_isInRange_159 (by decide) ?_
  refine lv_goto (tgt := 164) C.1 C.2.1 dX8_isInRange_160 (by decide) ?_
  exact r_zret C hr (Or.inr rfl) G hf dX8_isInRange_164
set_option maxRecDepth 100000 in
set_option maxHeartbeats 4000000 in
theorem mX8_isInRange_0 (l : Launch) (D : va_G) (a : Nat → Nat) (cI cJ : ClassId) (tk : Nat) (tf : Nat → Int32) (p1 : Int32) (S : St) (x : Int32 × St) (hf : fX8_isInRange_0 p1 S = some x) : Mi l D (wM a cI cJ) a 17 cI cJ tk tf yX8_isInRange cX8_isInRange 2 (some .boolean) { frames := 2, cells := 0, slots := 0, locals := 42 } [.ref (a 0), .int p1] S x := by
  refine opn_i (by decide +kernel) (Nat.le_of_ble_eq_true rfl) (fun p e s m below meth c C hr G ls hl => ?_)
  replace hl : lv_has ls 2 [(0, .ref (a 0)), (1, .int p1)] := hl
  unfold fX8_isInRange_0 at hf
  refine lv_iload_n C.1 C.2.1 dX8_isInRange_0 rfl (lv_at hl 1 rfl) ?_
  by_cases c1 : p1 = (10 : Int32)
  · replace hf := ifp c1 hf
    refine lv_tableIn (tgt := 88) C.1 C.2.1 dX8_isInRange_1 (by rw [c1]; decide) (by rw [c1]; decide) (by rw [c1]; rfl) (by decide) ?_
    refine lv_aload_n C.1 C.2.1 dX8_isInRange_88 rfl (lv_at hl 0 rfl) ?_
    refine lv_iconst (v := 0) C.1 C.2.1 dX8_isInRange_89 (by decide) ?_
    obtain ⟨r2, S2, eS2, hf⟩ := bnd_e hf
    refine r_cali (As := [.int (0 : Int32)]) (na := 1) C adM G (mX8_number_0 l D a cI cJ tk tf (0 : Int32) S _ eS2) k_914 k_916 k_38 k_68 k_917 (q0 := 0) rfl (ci := 8) rfl (by decide +kernel) ⟨Nat.le_of_ble_eq_true rfl, Nat.le_of_ble_eq_true rfl⟩ rfl rfl ⟨Nat.zero_le _, Nat.zero_le _⟩ rfl hl.1 rfl (Nat.le_of_ble_eq_true rfl) dX8_isInRange_90 (fun H locs G => ?_)
    refine lv_if_lt (tgt := 100) C.1 C.2.1 dX8_isInRange_93 (by decide) (fun c3 => ?_) (fun c3 => ?_)
    · replace hf := ifp c3 hf
      refine lv_iconst (v := 0) C.1 C.2.1 dX8_isInRange_100 (by decide) ?_
      exact r_zret C hr (Or.inl rfl) G hf dX8_isInRange_101
    · replace hf := ifq c3 hf
      refine lv_iconst (v := 1) C.1 C.2.1 dX8_isInRange_96 (by decide) ?_
      refine lv_goto (tgt := 101) C.1 C.2.1 dX8_isInRange_97 (by decide) ?_
      exact r_zret C hr (Or.inr rfl) G hf dX8_isInRange_101
  · replace hf := ifq c1 hf
    by_cases c4 : p1 = (11 : Int32)
    · replace hf := ifp c4 hf
      refine lv_tableIn (tgt := 185) C.1 C.2.1 dX8_isInRange_1 (by rw [c4]; decide) (by rw [c4]; decide) (by rw [c4]; rfl) (by decide) ?_
      exact rX8_isInRange_0_185 C hr S _ _ _ _ hf G (lv_sub hl [] rfl)
    · replace hf := ifq c4 hf
      by_cases c5 : p1 = (12 : Int32)
      · replace hf := ifp c5 hf
        refine lv_tableIn (tgt := 185) C.1 C.2.1 dX8_isInRange_1 (by rw [c5]; decide) (by rw [c5]; decide) (by rw [c5]; rfl) (by decide) ?_
        exact rX8_isInRange_0_185 C hr S _ _ _ _ hf G (lv_sub hl [] rfl)
      · replace hf := ifq c5 hf
        by_cases c6 : p1 = (13 : Int32)
        · replace hf := ifp c6 hf
          refine lv_tableIn (tgt := 185) C.1 C.2.1 dX8_isInRange_1 (by rw [c6]; decide) (by rw [c6]; decide) (by rw [c6]; rfl) (by decide) ?_
          exact rX8_isInRange_0_185 C hr S _ _ _ _ hf G (lv_sub hl [] rfl)
        · replace hf := ifq c6 hf
          by_cases c7 : p1 = (14 : Int32)
          · replace hf := ifp c7 hf
            refine lv_tableIn (tgt := 185) C.1 C.2.1 dX8_isInRange_1 (by rw [c7]; decide) (by rw [c7]; decide) (by rw [c7]; rfl) (by decide) ?_
            exact rX8_isInRange_0_185 C hr S _ _ _ _ hf G (lv_sub hl [] rfl)
          · replace hf := ifq c7 hf
            by_cases c8 : p1 = (15 : Int32)
            · replace hf := ifp c8 hf
              refine lv_tableIn (tgt := 185) C.1 C.2.1 dX8_isInRange_1 (by rw [c8]; decide) (by rw [c8]; decide) (by rw [c8]; rfl) (by decide) ?_
              exact rX8_isInRange_0_185 C hr S _ _ _ _ hf G (lv_sub hl [] rfl)
            · replace hf := ifq c8 hf
              by_cases c9 : p1 = (16 : Int32)
              · replace hf := ifp c9 hf
                refine lv_tableIn (tgt := 185) C.1 C.2.1 dX8_isInRange_1 (by rw [c9]; decide) (by rw [c9]; decide) (by rw [c9]; rfl) (by decide) ?_
                exact rX8_isInRange_0_185 C hr S _ _ _ _ hf G (lv_sub hl [] rfl)
              · replace hf := ifq c9 hf
                by_cases c10 : p1 = (17 : Int32)
                · replace hf := ifp c10 hf
                  refine lv_tableIn (tgt := 185) C.1 C.2.1 dX8_isInRange_1 (by rw [c10]; decide) (by rw [c10]; decide) (by rw [c10]; rfl) (by decide) ?_
                  exact rX8_isInRange_0_185 C hr S _ _ _ _ hf G (lv_sub hl [] rfl)
                · replace hf := ifq c10 hf
                  by_cases c11 : p1 = (18 : Int32)
                  · replace hf := ifp c11 hf
                    refine lv_tableIn (tgt := 185) C.1 C.2.1 dX8_isInRange_1 (by rw [c11]; decide) (by rw [c11]; decide) (by rw [c11]; rfl) (by decide) ?_
                    exact rX8_isInRange_0_185 C hr S _ _ _ _ hf G (lv_sub hl [] rfl)
                  · replace hf := ifq c11 hf
                    by_cases c12 : p1 = (19 : Int32)
                    · replace hf := ifp c12 hf
                      refine lv_tableIn (tgt := 102) C.1 C.2.1 dX8_isInRange_1 (by rw [c12]; decide) (by rw [c12]; decide) (by rw [c12]; rfl) (by decide) ?_
                      refine lv_aload_n C.1 C.2.1 dX8_isInRange_102 rfl (lv_at hl 0 rfl) ?_
                      refine lv_iconst (v := 1) C.1 C.2.1 dX8_isInRange_103 (by decide) ?_
                      obtain ⟨r13, S13, eS13, hf⟩ := bnd_e hf
                      refine r_cali (As := [.int (1 : Int32)]) (na := 1) C adM G (mX8_number_0 l D a cI cJ tk tf (1 : Int32) S _ eS13) k_914 k_916 k_38 k_68 k_917 (q0 := 0) rfl (ci := 8) rfl (by decide +kernel) ⟨Nat.le_of_ble_eq_true rfl, Nat.le_of_ble_eq_true rfl⟩ rfl rfl ⟨Nat.zero_le _, Nat.zero_le _⟩ rfl hl.1 rfl (Nat.le_of_ble_eq_true rfl) dX8_isInRange_104 (fun H locs G => ?_)
                      refine lv_if_lt (tgt := 114) C.1 C.2.1 dX8_isInRange_107 (by decide) (fun c14 => ?_) (fun c14 => ?_)
                      · replace hf := ifp c14 hf
                        refine lv_iconst (v := 0) C.1 C.2.1 dX8_isInRange_114 (by decide) ?_
                        exact r_zret C hr (Or.inl rfl) G hf dX8_isInRange_115
                      · replace hf := ifq c14 hf
                        refine lv_iconst (v := 1) C.1 C.2.1 dX8_isInRange_110 (by decide) ?_
                        refine lv_goto (tgt := 115) C.1 C.2.1 dX8_isInRange_111 (by decide) ?_
                        exact r_zret C hr (Or.inr rfl) G hf dX8_isInRange_115
                    · replace hf := ifq c12 hf
                      by_cases c15 : p1 = (20 : Int32)
                      · replace hf := ifp c15 hf
                        refine lv_tableIn (tgt := 116) C.1 C.2.1 dX8_isInRange_1 (by rw [c15]; decide) (by rw [c15]; decide) (by rw [c15]; rfl) (by decide) ?_
                        refine lv_aload_n C.1 C.2.1 dX8_isInRange_116 rfl (lv_at hl 0 rfl) ?_
                        refine lv_iconst (v := 2) C.1 C.2.1 dX8_isInRange_117 (by decide) ?_
                        obtain ⟨r16, S16, eS16, hf⟩ := bnd_e hf
                        refine r_cali (As := [.int (2 : Int32)]) (na := 1) C adM G (mX8_number_0 l D a cI cJ tk tf (2 : Int32) S _ eS16) k_914 k_916 k_38 k_68 k_917 (q0 := 0) rfl (ci := 8) rfl (by decide +kernel) ⟨Nat.le_of_ble_eq_true rfl, Nat.le_of_ble_eq_true rfl⟩ rfl rfl ⟨Nat.zero_le _, Nat.zero_le _⟩ rfl hl.1 rfl (Nat.le_of_ble_eq_true rfl) dX8_isInRange_118 (fun H locs G => ?_)
                        refine lv_if_eq (tgt := 128) C.1 C.2.1 dX8_isInRange_121 (by decide) (fun c17 => ?_) (fun c17 => ?_)
                        · replace hf := ifp c17 hf
                          refine lv_iconst (v := 0) C.1 C.2.1 dX8_isInRange_128 (by decide) ?_
                          exact r_zret C hr (Or.inl rfl) G hf dX8_isInRange_129
                        · replace hf := ifq c17 hf
                          refine lv_iconst (v := 1) C.1 C.2.1 dX8_isInRange_124 (by decide) ?_
                          refine lv_goto (tgt := 129) C.1 C.2.1 dX8_isInRange_125 (by decide) ?_
                          exact r_zret C hr (Or.inr rfl) G hf dX8_isInRange_129
                      · replace hf := ifq c15 hf
                        by_cases c18 : p1 = (21 : Int32)
                        · replace hf := ifp c18 hf
                          refine lv_tableIn (tgt := 185) C.1 C.2.1 dX8_isInRange_1 (by rw [c18]; decide) (by rw [c18]; decide) (by rw [c18]; rfl) (by decide) ?_
                          exact rX8_isInRange_0_185 C hr S _ _ _ _ hf G (lv_sub hl [] rfl)
                        · replace hf := ifq c18 hf
                          by_cases c19 : p1 = (22 : Int32)
                          · replace hf := ifp c19 hf
                            refine lv_tableIn (tgt := 185) C.1 C.2.1 dX8_isInRange_1 (by rw [c19]; decide) (by rw [c19]; decide) (by rw [c19]; rfl) (by decide) ?_
                            exact rX8_isInRange_0_185 C hr S _ _ _ _ hf G (lv_sub hl [] rfl)
                          · replace hf := ifq c19 hf
                            by_cases c20 : p1 = (23 : Int32)
                            · replace hf := ifp c20 hf
                              refine lv_tableIn (tgt := 185) C.1 C.2.1 dX8_isInRange_1 (by rw [c20]; decide) (by rw [c20]; decide) (by rw [c20]; rfl) (by decide) ?_
                              exact rX8_isInRange_0_185 C hr S _ _ _ _ hf G (lv_sub hl [] rfl)
                            · replace hf := ifq c20 hf
                              by_cases c21 : p1 = (24 : Int32)
                              · replace hf := ifp c21 hf
                                refine lv_tableIn (tgt := 185) C.1 C.2.1 dX8_isInRange_1 (by rw [c21]; decide) (by rw [c21]; decide) (by rw [c21]; rfl) (by decide) ?_
                                exact rX8_isInRange_0_185 C hr S _ _ _ _ hf G (lv_sub hl [] rfl)
                              · replace hf := ifq c21 hf
                                by_cases c22 : p1 = (25 : Int32)
                                · replace hf := ifp c22 hf
                                  refine lv_tableIn (tgt := 130) C.1 C.2.1 dX8_isInRange_1 (by rw [c22]; decide) (by rw [c22]; decide) (by rw [c22]; rfl) (by decide) ?_
                                  refine lv_aload_n C.1 C.2.1 dX8_isInRange_130 rfl (lv_at hl 0 rfl) ?_
                                  refine lv_iconst (v := 1) C.1 C.2.1 dX8_isInRange_131 (by decide) ?_
                                  obtain ⟨r23, S23, eS23, hf⟩ := bnd_e hf
                                  refine r_cali (As := [.int (1 : Int32)]) (na := 1) C adM G (mX8_number_0 l D a cI cJ tk tf (1 : Int32) S _ eS23) k_914 k_916 k_38 k_68 k_917 (q0 := 0) rfl (ci := 8) rfl (by decide +kernel) ⟨Nat.le_of_ble_eq_true rfl, Nat.le_of_ble_eq_true rfl⟩ rfl rfl ⟨Nat.zero_le _, Nat.zero_le _⟩ rfl hl.1 rfl (Nat.le_of_ble_eq_true rfl) dX8_isInRange_132 (fun H locs G => ?_)
                                  obtain ⟨r24, S24, eS24, hf⟩ := bnd_e hf
                                  refine r_cals (As := [.int r23]) (na := 1) C adM G (mX8_isError l D a cI cJ tk tf r23 S23 _ eS24) k_930 k_931 k_68 k_932 (by decide +kernel) ⟨Nat.le_of_ble_eq_true rfl, Nat.le_of_ble_eq_true rfl⟩ rfl rfl ⟨Nat.zero_le _, Nat.zero_le _⟩ rfl hl.1 rfl (Nat.le_of_ble_eq_true rfl) dX8_isInRange_135 (fun H locs G => ?_)
                                  refine lv_if_eq (tgt := 163) C.1 C.2.1 dX8_isInRange_138 (by decide) (fun c25 => ?_) (fun c25 => ?_)
                                  · replace hf := ifp c25 hf
                                    exact rX8_isInRange_0_163 C hr S24 _ _ _ _ hf G (lv_sub hl [] rfl)
                                  · replace hf := ifq c25 hf
                                    refine lv_aload_n C.1 C.2.1 dX8_isInRange_141 rfl (lv_at hl 0 rfl) ?_
                                    refine lv_iconst (v := 0) C.1 C.2.1 dX8_isInRange_142 (by decide) ?_
                                    obtain ⟨r26, S26, eS26, hf⟩ := bnd_e hf
                                    refine r_cali (As := [.int (0 : Int32)]) (na := 1) C adM G (mX8_kind_0 l D a cI cJ tk tf (0 : Int32) S24 _ eS26) k_910 k_912 k_37 k_68 k_913 (q0 := 0) rfl (ci := 8) rfl (by decide +kernel) ⟨Nat.le_of_ble_eq_true rfl, Nat.le_of_ble_eq_true rfl⟩ rfl rfl ⟨Nat.zero_le _, Nat.zero_le _⟩ rfl hl.1 rfl (Nat.le_of_ble_eq_true rfl) dX8_isInRange_143 (fun H locs G => ?_)
                                    refine lv_iconst (v := 4) C.1 C.2.1 dX8_isInRange_146 (by decide) ?_
                                    refine lv_icmp_eq (tgt := 159) C.1 C.2.1 dX8_isInRange_147 (by decide) (fun c27 => ?_) (fun c27 => ?_)
                                    · replace hf := ifp c27 hf
                                      exact rX8_isInRange_0_159 C hr S26 _ _ _ _ hf G (lv_sub hl [] rfl)
                                    · replace hf := ifq c27 hf
                                      refine lv_aload_n C.1 C.2.1 dX8_isInRange_150 rfl (lv_at hl 0 rfl) ?_
                                      refine lv_iconst (v := 0) C.1 C.2.1 dX8_isInRange_151 (by decide) ?_
                                      obtain ⟨r28, S28, eS28, hf⟩ := bnd_e hf
                                      refine r_cali (As := [.int (0 : Int32)]) (na := 1) C adM G (mX8_number_0 l D a cI cJ tk tf (0 : Int32) S26 _ eS28) k_914 k_916 k_38 k_68 k_917 (q0 := 0) rfl (ci := 8) rfl (by decide +kernel) ⟨Nat.le_of_ble_eq_true rfl, Nat.le_of_ble_eq_true rfl⟩ rfl rfl ⟨Nat.zero_le _, Nat.zero_le _⟩ rfl hl.1 rfl (Nat.le_of_ble_eq_true rfl) dX8_isInRange_152 (fun H locs G => ?_)
                                      refine lv_iconst (v := (-1)) C.1 C.2.1 dX8_isInRange_155 (by decide) ?_
                                      refine lv_icmp_ne (tgt := 163) C.1 C.2.1 dX8_isInRange_156 (by decide) (fun c29 => ?_) (fun c29 => ?_)
                                      · replace hf := ifq c29 hf
                                        exact rX8_isInRange_0_163 C hr S28 _ _ _ _ hf G (lv_sub hl [] rfl)
                                      · replace hf := ifp c29 hf
                                        exact rX8_isInRange_0_159 C hr S28 _ _ _ _ hf G (lv_sub hl [] rfl)
                                · replace hf := ifq c22 hf
                                  by_cases c30 : p1 = (26 : Int32)
                                  · replace hf := ifp c30 hf
                                    refine lv_tableIn (tgt := 165) C.1 C.2.1 dX8_isInRange_1 (by rw [c30]; decide) (by rw [c30]; decide) (by rw [c30]; rfl) (by decide) ?_
                                    refine lv_aload_n C.1 C.2.1 dX8_isInRange_165 rfl (lv_at hl 0 rfl) ?_
                                    refine lv_iconst (v := 0) C.1 C.2.1 dX8_isInRange_166 (by decide) ?_
                                    obtain ⟨r31, S31, eS31, hf⟩ := bnd_e hf
                                    refine r_cali (As := [.int (0 : Int32)]) (na := 1) C adM G (mX8_number_0 l D a cI cJ tk tf (0 : Int32) S _ eS31) k_914 k_916 k_38 k_68 k_917 (q0 := 0) rfl (ci := 8) rfl (by decide +kernel) ⟨Nat.le_of_ble_eq_true rfl, Nat.le_of_ble_eq_true rfl⟩ rfl rfl ⟨Nat.zero_le _, Nat.zero_le _⟩ rfl hl.1 rfl (Nat.le_of_ble_eq_true rfl) dX8_isInRange_167 (fun H locs G => ?_)
                                    obtain ⟨r32, S32, eS32, hf⟩ := bnd_e hf
                                    refine r_cals (As := [.int r31]) (na := 1) C adM G (mX8_isError l D a cI cJ tk tf r31 S31 _ eS32) k_930 k_931 k_68 k_932 (by decide +kernel) ⟨Nat.le_of_ble_eq_true rfl, Nat.le_of_ble_eq_true rfl⟩ rfl rfl ⟨Nat.zero_le _, Nat.zero_le _⟩ rfl hl.1 rfl (Nat.le_of_ble_eq_true rfl) dX8_isInRange_170 (fun H locs G => ?_)
                                    obtain ⟨hb33, hf⟩ := ifn hf
                                    exact r_zret C hr hb33 G hf dX8_isInRange_173
                                  · replace hf := ifq c30 hf
                                    by_cases c34 : p1 = (27 : Int32)
                                    · replace hf := ifp c34 hf
                                      refine lv_tableIn (tgt := 174) C.1 C.2.1 dX8_isInRange_1 (by rw [c34]; decide) (by rw [c34]; decide) (by rw [c34]; rfl) (by decide) ?_
                                      refine lv_aload_n C.1 C.2.1 dX8_isInRange_174 rfl (lv_at hl 0 rfl) ?_
                                      refine lv_iconst (v := 0) C.1 C.2.1 dX8_isInRange_175 (by decide) ?_
                                      obtain ⟨r35, S35, eS35, hf⟩ := bnd_e hf
                                      refine r_cali (As := [.int (0 : Int32)]) (na := 1) C adM G (mX8_number_0 l D a cI cJ tk tf (0 : Int32) S _ eS35) k_914 k_916 k_38 k_68 k_917 (q0 := 0) rfl (ci := 8) rfl (by decide +kernel) ⟨Nat.le_of_ble_eq_true rfl, Nat.le_of_ble_eq_true rfl⟩ rfl rfl ⟨Nat.zero_le _, Nat.zero_le _⟩ rfl hl.1 rfl (Nat.le_of_ble_eq_true rfl) dX8_isInRange_176 (fun H locs G => ?_)
                                      refine lv_iconst (v := 0) C.1 C.2.1 dX8_isInRange_179 (by decide) ?_
                                      refine lv_iconst (v := 5) C.1 C.2.1 dX8_isInRange_180 (by decide) ?_
                                      obtain ⟨r36, S36, eS36, hf⟩ := bnd_e hf
                                      refine r_cals (As := [.int r35, .int (0 : Int32), .int (5 : Int32)]) (na := 3) C adM G (mX8_in l D a cI cJ tk tf r35 (0 : Int32) (5 : Int32) S35 _ eS36) k_857 k_858 k_68 k_859 (by decide +kernel) ⟨Nat.le_of_ble_eq_true rfl, Nat.le_of_ble_eq_true rfl⟩ rfl rfl ⟨Nat.zero_le _, Nat.zero_le _⟩ rfl hl.1 rfl (Nat.le_of_ble_eq_true rfl) dX8_isInRange_181 (fun H locs G => ?_)
                                      obtain ⟨hb37, hf⟩ := ifn hf
                                      exact r_zret C hr hb37 G hf dX8_isInRange_184
                                    · replace hf := ifq c34 hf
                                      have nc1 : (p1).toInt ≠ 10 := nti c1
                                      have nc4 : (p1).toInt ≠ 11 := nti c4
                                      have nc5 : (p1).toInt ≠ 12 := nti c5
                                      have nc6 : (p1).toInt ≠ 13 := nti c6
                                      have nc7 : (p1).toInt ≠ 14 := nti c7
                                      have nc8 : (p1).toInt ≠ 15 := nti c8
                                      have nc9 : (p1).toInt ≠ 16 := nti c9
                                      have nc10 : (p1).toInt ≠ 17 := nti c10
                                      have nc11 : (p1).toInt ≠ 18 := nti c11
                                      have nc12 : (p1).toInt ≠ 19 := nti c12
                                      have nc15 : (p1).toInt ≠ 20 := nti c15
                                      have nc18 : (p1).toInt ≠ 21 := nti c18
                                      have nc19 : (p1).toInt ≠ 22 := nti c19
                                      have nc20 : (p1).toInt ≠ 23 := nti c20
                                      have nc21 : (p1).toInt ≠ 24 := nti c21
                                      have nc22 : (p1).toInt ≠ 25 := nti c22
                                      have nc30 : (p1).toInt ≠ 26 := nti c30
                                      have nc34 : (p1).toInt ≠ 27 := nti c34
                                      refine lv_tableOut (tgt := 185) C.1 C.2.1 dX8_isInRange_1 (by omega) (by decide) ?_
                                      exact rX8_isInRange_0_185 C hr S _ _ _ _ hf G (lv_sub hl [] rfl)
set_option maxRecDepth 100000 in
set_option maxHeartbeats 4000000 in
theorem rX8_mayBegin_0_16 {p : Program} {l : Launch} {e : Env} {s : State} {m : MethodId} {args : Array Value} {below : List Frame} {meth : Method} {c : Code} {D : va_G} {a : Nat → Nat} {cI cJ : ClassId} {tk : Nat} {tf : Nat → Int32} (C : Cx p s m args meth c RX8 cX8_mayBegin 1 D cI cJ tk tf (AR a 17 s.heap.size)) (hr : meth.sig.returnType = (some .boolean)) : ∀ (S : St) (x : Int32 × St) (H : Heap) (locs : List Loc) (ls : Array Slot), fX8_mayBegin_0_16 S = some x → Wd D (wM a cI cJ) (AR a 17 s.heap.size) s S H locs → lv_has ls 1 [] → W p l e { frames := 1, cells := 0, slots := 0, locals := 20 } s m args below meth c H locs 0 0 (MQ below (Qi D (wM a cI cJ) (AR a 17 s.heap.size) x) args s 0 0 (AR a 17 s.heap.size)) (F0 m 16 ls []) := by
  intro S x H locs ls hf G hl
  unfold fX8_mayBegin_0_16 at hf
  refine lv_iconst (v := 1) C.1 C.2.1 dX8_mayBegin_16 (by decide) ?_
  refine lv_goto (tgt := 21) C.1 C.2.1 dX8_mayBegin_17 (by decide) ?_
  exact r_zret C hr (Or.inr rfl) G hf dX8_mayBegin_21
set_option maxRecDepth 100000 in
set_option maxHeartbeats 4000000 in
theorem mX8_mayBegin_0 (l : Launch) (D : va_G) (a : Nat → Nat) (cI cJ : ClassId) (tk : Nat) (tf : Nat → Int32) (S : St) (x : Int32 × St) (hf : fX8_mayBegin_0 S = some x) : Mi l D (wM a cI cJ) a 17 cI cJ tk tf yX8_mayBegin cX8_mayBegin 1 (some .boolean) { frames := 1, cells := 0, slots := 0, locals := 20 } [.ref (a 0)] S x := by
  refine opn_i (by decide +kernel) (Nat.le_of_ble_eq_true rfl) (fun p e s m below meth c C hr G ls hl => ?_)
  replace hl : lv_has ls 1 [(0, .ref (a 0))] := hl
  unfold fX8_mayBegin_0 at hf
  refine lv_aload_n C.1 C.2.1 dX8_mayBegin_0 rfl (lv_at hl 0 rfl) ?_
  refine gM_0_19 C G k_777 dX8_mayBegin_1 ?_
  refine lv_bipush (v := 30) C.1 C.2.1 dX8_mayBegin_4 (by decide) ?_
  refine lv_icmp_lt (tgt := 16) C.1 C.2.1 dX8_mayBegin_6 (by decide) (fun c1 => ?_) (fun c1 => ?_)
  · replace hf := ifp c1 hf
    exact rX8_mayBegin_0_16 C hr S _ _ _ _ hf G (lv_sub hl [] rfl)
  · replace hf := ifq c1 hf
    refine lv_aload_n C.1 C.2.1 dX8_mayBegin_9 rfl (lv_at hl 0 rfl) ?_
    obtain ⟨r2, S2, eS2, hf⟩ := bnd_e hf
    refine r_cali (As := []) (na := 0) C adM G (mX8_isSpent_0 l D a cI cJ tk tf S _ eS2) k_895 k_897 k_34 k_68 k_898 (q0 := 0) rfl (ci := 8) rfl (by decide +kernel) ⟨Nat.le_of_ble_eq_true rfl, Nat.le_of_ble_eq_true rfl⟩ rfl rfl ⟨Nat.zero_le _, Nat.zero_le _⟩ rfl hl.1 rfl (Nat.le_of_ble_eq_true rfl) dX8_mayBegin_10 (fun H locs G => ?_)
    refine lv_if_eq (tgt := 20) C.1 C.2.1 dX8_mayBegin_13 (by decide) (fun c3 => ?_) (fun c3 => ?_)
    · replace hf := ifp c3 hf
      refine lv_iconst (v := 0) C.1 C.2.1 dX8_mayBegin_20 (by decide) ?_
      exact r_zret C hr (Or.inl rfl) G hf dX8_mayBegin_21
    · replace hf := ifq c3 hf
      exact rX8_mayBegin_0_16 C hr S2 _ _ _ _ hf G (lv_sub hl [] rfl)
set_option maxRecDepth 100000 in
set_option maxHeartbeats 4000000 in
theorem rX8_hasFrames_0_71 {p : Program} {l : Launch} {e : Env} {s : State} {m : MethodId} {args : Array Value} {below : List Frame} {meth : Method} {c : Code} {D : va_G} {a : Nat → Nat} {cI cJ : ClassId} {tk : Nat} {tf : Nat → Int32} (C : Cx p s m args meth c RX8 cX8_hasFrames 2 D cI cJ tk tf (AR a 17 s.heap.size)) (hr : meth.sig.returnType = (some .boolean)) : ∀ (S : St) (x : Int32 × St) (H : Heap) (locs : List Loc) (ls : Array Slot), fX8_hasFrames_0_71 S = some x → Wd D (wM a cI cJ) (AR a 17 s.heap.size) s S H locs → lv_has ls 2 [] → W p l e { frames := 2, cells := 0, slots := 0, locals := 44 } s m args below meth c H locs 0 0 (MQ below (Qi D (wM a cI cJ) (AR a 17 s.heap.size) x) args s 0 0 (AR a 17 s.heap.size)) (F0 m 71 ls []) := by
  intro S x H locs ls hf G hl
  unfold fX8_hasFrames_0_71 at hf
  refine lv_iconst (v := 0) C.1 C.2.1 dX8_hasFrames_71 (by decide) ?_
  exact r_zret C hr (Or.inl rfl) G hf dX8_hasFrames_72
set_option maxRecDepth 100000 in
set_option maxHeartbeats 4000000 in
theorem rX8_hasFrames_0_67 {p : Program} {l : Launch} {e : Env} {s : State} {m : MethodId} {args : Array Value} {below : List Frame} {meth : Method} {c : Code} {D : va_G} {a : Nat → Nat} {cI cJ : ClassId} {tk : Nat} {tf : Nat → Int32} (C : Cx p s m args meth c RX8 cX8_hasFrames 2 D cI cJ tk tf (AR a 17 s.heap.size)) (hr : meth.sig.returnType = (some .boolean)) : ∀ (S : St) (x : Int32 × St) (H : Heap) (locs : List Loc) (ls : Array Slot), fX8_hasFrames_0_67 S = some x → Wd D (wM a cI cJ) (AR a 17 s.heap.size) s S H locs → lv_has ls 2 [] → W p l e { frames := 2, cells := 0, slots := 0, locals := 44 } s m args below meth c H locs 0 0 (MQ below (Qi D (wM a cI cJ) (AR a 17 s.heap.size) x) args s 0 0 (AR a 17 s.heap.size)) (F0 m 67 ls []) := by
  intro S x H locs ls hf G hl
  unfold fX8_hasFrames_0_67 at hf
  refine lv_iconst (v := 1) C.1 C.2.1 dX8_hasFrames_67 (by decide) ?_
  refine lv_goto (tgt := 72) C.1 C.2.1 dX8_hasFrames_68 (by decide) ?_
  exact r_zret C hr (Or.inr rfl) G hf dX8_hasFrames_72
set_option maxRecDepth 100000 in
set_option maxHeartbeats 4000000 in
theorem rX8_hasFrames_0_52 {p : Program} {l : Launch} {e : Env} {s : State} {m : MethodId} {args : Array Value} {below : List Frame} {meth : Method} {c : Code} {D : va_G} {a : Nat → Nat} {cI cJ : ClassId} {tk : Nat} {tf : Nat → Int32} (C : Cx p s m args meth c RX8 cX8_hasFrames 2 D cI cJ tk tf (AR a 17 s.heap.size)) (hr : meth.sig.returnType = (some .boolean)) : ∀ (q1 : Int32) (S : St) (x : Int32 × St) (H : Heap) (locs : List Loc) (ls : Array Slot), fX8_hasFrames_0_52 q1 S = some x → Wd D (wM a cI cJ) (AR a 17 s.heap.size) s S H locs → lv_has ls 2 [(0, .ref (a 0)), (1, .int q1)] → W p l e { frames := 2, cells := 0, slots := 0, locals := 44 } s m args below meth c H locs 0 0 (MQ below (Qi D (wM a cI cJ) (AR a 17 s.heap.size) x) args s 0 0 (AR a 17 s.heap.size)) (F0 m 52 ls []) := by
  intro q1 S x H locs ls hf G hl
  unfold fX8_hasFrames_0_52 at hf
  refine lv_iload_n C.1 C.2.1 dX8_hasFrames_52 rfl (lv_at hl 1 rfl) ?_
  refine lv_bipush (v := 24) C.1 C.2.1 dX8_hasFrames_53 (by decide) ?_
  refine lv_icmp_ne (tgt := 67) C.1 C.2.1 dX8_hasFrames_55 (by decide) (fun c1 => ?_) (fun c1 => ?_)
  · replace hf := ifq c1 hf
    exact rX8_hasFrames_0_67 C hr S _ _ _ _ hf G (lv_sub hl [] rfl)
  · replace hf := ifp c1 hf
    refine lv_aload_n C.1 C.2.1 dX8_hasFrames_58 rfl (lv_at hl 0 rfl) ?_
    refine gM_0_19 C G k_777 dX8_hasFrames_59 ?_
    refine lv_bipush (v := 28) C.1 C.2.1 dX8_hasFrames_62 (by decide) ?_
    refine lv_icmp_gt (tgt := 71) C.1 C.2.1 dX8_hasFrames_64 (by decide) (fun c2 => ?_) (fun c2 => ?_)
    · replace hf := ifp c2 hf
      exact rX8_hasFrames_0_71 C hr S _ _ _ _ hf G (lv_sub hl [] rfl)
    · replace hf := ifq c2 hf
      exact rX8_hasFrames_0_67 C hr S _ _ _ _ hf G (lv_sub hl [] rfl)
set_option maxRecDepth 100000 in
set_option maxHeartbeats 4000000 in
theorem rX8_hasFrames_0_26 {p : Program} {l : Launch} {e : Env} {s : State} {m : MethodId} {args : Array Value} {below : List Frame} {meth : Method} {c : Code} {D : va_G} {a : Nat → Nat} {cI cJ : ClassId} {tk : Nat} {tf : Nat → Int32} (C : Cx p s m args meth c RX8 cX8_hasFrames 2 D cI cJ tk tf (AR a 17 s.heap.size)) (hr : meth.sig.returnType = (some .boolean)) : ∀ (S : St) (x : Int32 × St) (H : Heap) (locs : List Loc) (ls : Array Slot), fX8_hasFrames_0_26 S = some x → Wd D (wM a cI cJ) (AR a 17 s.heap.size) s S H locs → lv_has ls 2 [] → W p l e { frames := 2, cells := 0, slots := 0, locals := 44 } s m args below meth c H locs 0 0 (MQ below (Qi D (wM a cI cJ) (AR a 17 s.heap.size) x) args s 0 0 (AR a 17 s.heap.size)) (F0 m 26 ls []) := by
  intro S x H locs ls hf G hl
  unfold fX8_hasFrames_0_26 at hf
  refine lv_iconst (v := 1) C.1 C.2.1 dX8_hasFrames_26 (by decide) ?_
  refine lv_goto (tgt := 31) C.1 C.2.1 dX8_hasFrames_27 (by decide) ?_
  exact r_zret C hr (Or.inr rfl) G hf dX8_hasFrames_31
set_option maxRecDepth 100000 in
set_option maxHeartbeats 4000000 in
theorem mX8_hasFrames_0 (l : Launch) (D : va_G) (a : Nat → Nat) (cI cJ : ClassId) (tk : Nat) (tf : Nat → Int32) (p1 : Int32) (S : St) (x : Int32 × St) (hf : fX8_hasFrames_0 p1 S = some x) : Mi l D (wM a cI cJ) a 17 cI cJ tk tf yX8_hasFrames cX8_hasFrames 2 (some .boolean) { frames := 2, cells := 0, slots := 0, locals := 44 } [.ref (a 0), .int p1] S x := by
  refine opn_i (by decide +kernel) (Nat.le_of_ble_eq_true rfl) (fun p e s m below meth c C hr G ls hl => ?_)
  replace hl : lv_has ls 2 [(0, .ref (a 0)), (1, .int p1)] := hl
  unfold fX8_hasFrames_0 at hf
  refine lv_iload_n C.1 C.2.1 dX8_hasFrames_0 rfl (lv_at hl 1 rfl) ?_
  refine lv_bipush (v := 16) C.1 C.2.1 dX8_hasFrames_1 (by decide) ?_
  refine lv_bipush (v := 18) C.1 C.2.1 dX8_hasFrames_3 (by decide) ?_
  obtain ⟨r1, S1, eS1, hf⟩ := bnd_e hf
  refine r_cals (As := [.int p1, .int (16 : Int32), .int (18 : Int32)]) (na := 3) C adM G (mX8_in l D a cI cJ tk tf p1 (16 : Int32) (18 : Int32) S _ eS1) k_857 k_858 k_68 k_859 (by decide +kernel) ⟨Nat.le_of_ble_eq_true rfl, Nat.le_of_ble_eq_true rfl⟩ rfl rfl ⟨Nat.zero_le _, Nat.zero_le _⟩ rfl hl.1 rfl (Nat.le_of_ble_eq_true rfl) dX8_hasFrames_5 (fun H locs G => ?_)
  refine lv_if_eq (tgt := 32) C.1 C.2.1 dX8_hasFrames_8 (by decide) (fun c2 => ?_) (fun c2 => ?_)
  · replace hf := ifp c2 hf
    refine lv_iload_n C.1 C.2.1 dX8_hasFrames_32 rfl (lv_at hl 1 rfl) ?_
    refine lv_bipush (v := 19) C.1 C.2.1 dX8_hasFrames_33 (by decide) ?_
    refine lv_bipush (v := 21) C.1 C.2.1 dX8_hasFrames_35 (by decide) ?_
    obtain ⟨r3, S3, eS3, hf⟩ := bnd_e hf
    refine r_cals (As := [.int p1, .int (19 : Int32), .int (21 : Int32)]) (na := 3) C adM G (mX8_in l D a cI cJ tk tf p1 (19 : Int32) (21 : Int32) S1 _ eS3) k_857 k_858 k_68 k_859 (by decide +kernel) ⟨Nat.le_of_ble_eq_true rfl, Nat.le_of_ble_eq_true rfl⟩ rfl rfl ⟨Nat.zero_le _, Nat.zero_le _⟩ rfl hl.1 rfl (Nat.le_of_ble_eq_true rfl) dX8_hasFrames_37 (fun H locs G => ?_)
    refine lv_if_eq (tgt := 52) C.1 C.2.1 dX8_hasFrames_40 (by decide) (fun c4 => ?_) (fun c4 => ?_)
    · replace hf := ifp c4 hf
      exact rX8_hasFrames_0_52 C hr p1 S3 _ _ _ _ hf G (lv_sub hl [0, 1] rfl)
    · replace hf := ifq c4 hf
      refine lv_aload_n C.1 C.2.1 dX8_hasFrames_43 rfl (lv_at hl 0 rfl) ?_
      refine gM_0_19 C G k_777 dX8_hasFrames_44 ?_
      refine lv_bipush (v := 30) C.1 C.2.1 dX8_hasFrames_47 (by decide) ?_
      refine lv_icmp_eq (tgt := 71) C.1 C.2.1 dX8_hasFrames_49 (by decide) (fun c5 => ?_) (fun c5 => ?_)
      · replace hf := ifp c5 hf
        exact rX8_hasFrames_0_71 C hr S3 _ _ _ _ hf G (lv_sub hl [] rfl)
      · replace hf := ifq c5 hf
        exact rX8_hasFrames_0_52 C hr p1 S3 _ _ _ _ hf G (lv_sub hl [0, 1] rfl)
  · replace hf := ifq c2 hf
    refine lv_aload_n C.1 C.2.1 dX8_hasFrames_11 rfl (lv_at hl 0 rfl) ?_
    refine lv_iload_n C.1 C.2.1 dX8_hasFrames_12 rfl (lv_at hl 1 rfl) ?_
    obtain ⟨r6, S6, eS6, hf⟩ := bnd_e hf
    refine r_cali (As := [.int p1]) (na := 1) C adM G (mX8_procedureOf_0 l D a cI cJ tk tf p1 S1 _ eS6) k_941 k_943 k_44 k_68 k_944 (q0 := 0) rfl (ci := 8) rfl (by decide +kernel) ⟨Nat.le_of_ble_eq_true rfl, Nat.le_of_ble_eq_true rfl⟩ rfl rfl ⟨Nat.zero_le _, Nat.zero_le _⟩ rfl hl.1 rfl (Nat.le_of_ble_eq_true rfl) dX8_hasFrames_13 (fun H locs G => ?_)
    refine lv_if_lt (tgt := 26) C.1 C.2.1 dX8_hasFrames_16 (by decide) (fun c7 => ?_) (fun c7 => ?_)
    · replace hf := ifp c7 hf
      exact rX8_hasFrames_0_26 C hr S6 _ _ _ _ hf G (lv_sub hl [] rfl)
    · replace hf := ifq c7 hf
      refine lv_aload_n C.1 C.2.1 dX8_hasFrames_19 rfl (lv_at hl 0 rfl) ?_
      obtain ⟨r8, S8, eS8, hf⟩ := bnd_e hf
      refine r_cali (As := []) (na := 0) C adM G (mX8_mayBegin_0 l D a cI cJ tk tf S6 _ eS8) k_945 k_947 k_45 k_68 k_948 (q0 := 0) rfl (ci := 8) rfl (by decide +kernel) ⟨Nat.le_of_ble_eq_true rfl, Nat.le_of_ble_eq_true rfl⟩ rfl rfl ⟨Nat.zero_le _, Nat.zero_le _⟩ rfl hl.1 rfl (Nat.le_of_ble_eq_true rfl) dX8_hasFrames_20 (fun H locs G => ?_)
      refine lv_if_eq (tgt := 30) C.1 C.2.1 dX8_hasFrames_23 (by decide) (fun c9 => ?_) (fun c9 => ?_)
      · replace hf := ifp c9 hf
        refine lv_iconst (v := 0) C.1 C.2.1 dX8_hasFrames_30 (by decide) ?_
        exact r_zret C hr (Or.inl rfl) G hf dX8_hasFrames_31
      · replace hf := ifq c9 hf
        exact rX8_hasFrames_0_26 C hr S8 _ _ _ _ hf G (lv_sub hl [] rfl)
set_option maxRecDepth 100000 in
set_option maxHeartbeats 4000000 in
theorem rX8_wrong_0_224 {p : Program} {l : Launch} {e : Env} {s : State} {m : MethodId} {args : Array Value} {below : List Frame} {meth : Method} {c : Code} {D : va_G} {a : Nat → Nat} {cI cJ : ClassId} {tk : Nat} {tf : Nat → Int32} (C : Cx p s m args meth c RX8 cX8_wrong 4 D cI cJ tk tf (AR a 17 s.heap.size)) (hr : meth.sig.returnType = (some .int)) : ∀ (S : St) (x : Int32 × St) (H : Heap) (locs : List Loc) (ls : Array Slot), fX8_wrong_0_224 S = some x → Wd D (wM a cI cJ) (AR a 17 s.heap.size) s S H locs → lv_has ls 4 [] → W p l e { frames := 3, cells := 0, slots := 0, locals := 65 } s m args below meth c H locs 0 0 (MQ below (Qi D (wM a cI cJ) (AR a 17 s.heap.size) x) args s 0 0 (AR a 17 s.heap.size)) (F0 m 224 ls []) := by
  intro S x H locs ls hf G hl
  unfold fX8_wrong_0_224 at hf
  refine lv_iconst (v := 0) C.1 C.2.1 dX8_wrong_224 (by decide) ?_
  exact r_iret C hr G hf dX8_wrong_225
set_option maxRecDepth 100000 in
set_option maxHeartbeats 4000000 in
theorem rX8_wrong_0_211 {p : Program} {l : Launch} {e : Env} {s : State} {m : MethodId} {args : Array Value} {below : List Frame} {meth : Method} {c : Code} {D : va_G} {a : Nat → Nat} {cI cJ : ClassId} {tk : Nat} {tf : Nat → Int32} (C : Cx p s m args meth c RX8 cX8_wrong 4 D cI cJ tk tf (AR a 17 s.heap.size)) (hr : meth.sig.returnType = (some .int)) : ∀ (S : St) (x : Int32 × St) (H : Heap) (locs : List Loc) (ls : Array Slot), fX8_wrong_0_211 S = some x → Wd D (wM a cI cJ) (AR a 17 s.heap.size) s S H locs → lv_has ls 4 [(0, .ref (a 0))] → W p l e { frames := 3, cells := 0, slots := 0, locals := 65 } s m args below meth c H locs 0 0 (MQ below (Qi D (wM a cI cJ) (AR a 17 s.heap.size) x) args s 0 0 (AR a 17 s.heap.size)) (F0 m 211 ls []) := by
  intro S x H locs ls hf G hl
  unfold fX8_wrong_0_211 at hf
  refine lv_aload_n C.1 C.2.1 dX8_wrong_211 rfl (lv_at hl 0 rfl) ?_
  refine gM_0_6 C G k_764 dX8_wrong_212 ?_
  refine lv_bipush (v := 60) C.1 C.2.1 dX8_wrong_215 (by decide) ?_
  refine lv_icmp_ne (tgt := 224) C.1 C.2.1 dX8_wrong_217 (by decide) (fun c1 => ?_) (fun c1 => ?_)
  · replace hf := ifq c1 hf
    exact rX8_wrong_0_224 C hr S _ _ _ _ hf G (lv_sub hl [] rfl)
  · replace hf := ifp c1 hf
    refine lv_iconst (v := 2) C.1 C.2.1 dX8_wrong_220 (by decide) ?_
    refine lv_goto (tgt := 225) C.1 C.2.1 dX8_wrong_221 (by decide) ?_
    exact r_iret C hr G hf dX8_wrong_225
set_option maxRecDepth 100000 in
set_option maxHeartbeats 4000000 in
theorem rX8_wrong_0_182 {p : Program} {l : Launch} {e : Env} {s : State} {m : MethodId} {args : Array Value} {below : List Frame} {meth : Method} {c : Code} {D : va_G} {a : Nat → Nat} {cI cJ : ClassId} {tk : Nat} {tf : Nat → Int32} (C : Cx p s m args meth c RX8 cX8_wrong 4 D cI cJ tk tf (AR a 17 s.heap.size)) (hr : meth.sig.returnType = (some .int)) : ∀ (q1 : Int32) (S : St) (x : Int32 × St) (H : Heap) (locs : List Loc) (ls : Array Slot), fX8_wrong_0_182 q1 S = some x → Wd D (wM a cI cJ) (AR a 17 s.heap.size) s S H locs → lv_has ls 4 [(0, .ref (a 0)), (1, .int q1)] → W p l e { frames := 3, cells := 0, slots := 0, locals := 65 } s m args below meth c H locs 0 0 (MQ below (Qi D (wM a cI cJ) (AR a 17 s.heap.size) x) args s 0 0 (AR a 17 s.heap.size)) (F0 m 182 ls []) := by
  intro q1 S x H locs ls hf G hl
  unfold fX8_wrong_0_182 at hf
  refine lv_aload_n C.1 C.2.1 dX8_wrong_182 rfl (lv_at hl 0 rfl) ?_
  refine lv_iload_n C.1 C.2.1 dX8_wrong_183 rfl (lv_at hl 1 rfl) ?_
  obtain ⟨r1, S1, eS1, hf⟩ := bnd_e hf
  refine r_cali (As := [.int q1]) (na := 1) C adM G (mX8_hasFrames_0 l D a cI cJ tk tf q1 S _ eS1) k_937 k_939 k_43 k_68 k_940 (q0 := 0) rfl (ci := 8) rfl (by decide +kernel) ⟨Nat.le_of_ble_eq_true rfl, Nat.le_of_ble_eq_true rfl⟩ rfl rfl ⟨Nat.zero_le _, Nat.zero_le _⟩ rfl hl.1 rfl (Nat.le_of_ble_eq_true rfl) dX8_wrong_184 (fun H locs G => ?_)
  refine lv_if_ne (tgt := 193) C.1 C.2.1 dX8_wrong_187 (by decide) (fun c2 => ?_) (fun c2 => ?_)
  · replace hf := ifq c2 hf
    refine lv_iload_n C.1 C.2.1 dX8_wrong_193 rfl (lv_at hl 1 rfl) ?_
    refine lv_bipush (v := 8) C.1 C.2.1 dX8_wrong_194 (by decide) ?_
    refine lv_icmp_eq (tgt := 211) C.1 C.2.1 dX8_wrong_196 (by decide) (fun c3 => ?_) (fun c3 => ?_)
    · replace hf := ifp c3 hf
      exact rX8_wrong_0_211 C hr S1 _ _ _ _ hf G (lv_sub hl [0] rfl)
    · replace hf := ifq c3 hf
      refine lv_iload_n C.1 C.2.1 dX8_wrong_199 rfl (lv_at hl 1 rfl) ?_
      refine lv_bipush (v := 11) C.1 C.2.1 dX8_wrong_200 (by decide) ?_
      refine lv_icmp_eq (tgt := 211) C.1 C.2.1 dX8_wrong_202 (by decide) (fun c4 => ?_) (fun c4 => ?_)
      · replace hf := ifp c4 hf
        exact rX8_wrong_0_211 C hr S1 _ _ _ _ hf G (lv_sub hl [0] rfl)
      · replace hf := ifq c4 hf
        refine lv_iload_n C.1 C.2.1 dX8_wrong_205 rfl (lv_at hl 1 rfl) ?_
        refine lv_bipush (v := 12) C.1 C.2.1 dX8_wrong_206 (by decide) ?_
        refine lv_icmp_ne (tgt := 224) C.1 C.2.1 dX8_wrong_208 (by decide) (fun c5 => ?_) (fun c5 => ?_)
        · replace hf := ifq c5 hf
          exact rX8_wrong_0_224 C hr S1 _ _ _ _ hf G (lv_sub hl [] rfl)
        · replace hf := ifp c5 hf
          exact rX8_wrong_0_211 C hr S1 _ _ _ _ hf G (lv_sub hl [0] rfl)
  · replace hf := ifp c2 hf
    refine lv_bipush (v := 8) C.1 C.2.1 dX8_wrong_190 (by decide) ?_
    exact r_iret C hr G hf dX8_wrong_192
set_option maxRecDepth 100000 in
set_option maxHeartbeats 4000000 in
theorem rX8_wrong_0_166 {p : Program} {l : Launch} {e : Env} {s : State} {m : MethodId} {args : Array Value} {below : List Frame} {meth : Method} {c : Code} {D : va_G} {a : Nat → Nat} {cI cJ : ClassId} {tk : Nat} {tf : Nat → Int32} (C : Cx p s m args meth c RX8 cX8_wrong 4 D cI cJ tk tf (AR a 17 s.heap.size)) (hr : meth.sig.returnType = (some .int)) : ∀ (q1 : Int32) (S : St) (x : Int32 × St) (H : Heap) (locs : List Loc) (ls : Array Slot), fX8_wrong_0_166 q1 S = some x → Wd D (wM a cI cJ) (AR a 17 s.heap.size) s S H locs → lv_has ls 4 [(0, .ref (a 0)), (1, .int q1)] → W p l e { frames := 3, cells := 0, slots := 0, locals := 65 } s m args below meth c H locs 0 0 (MQ below (Qi D (wM a cI cJ) (AR a 17 s.heap.size) x) args s 0 0 (AR a 17 s.heap.size)) (F0 m 166 ls []) := by
  intro q1 S x H locs ls hf G hl
  unfold fX8_wrong_0_166 at hf
  refine lv_iload_n C.1 C.2.1 dX8_wrong_166 rfl (lv_at hl 1 rfl) ?_
  refine lv_bipush (v := 22) C.1 C.2.1 dX8_wrong_167 (by decide) ?_
  refine lv_icmp_ne (tgt := 182) C.1 C.2.1 dX8_wrong_169 (by decide) (fun c1 => ?_) (fun c1 => ?_)
  · replace hf := ifq c1 hf
    exact rX8_wrong_0_182 C hr q1 S _ _ _ _ hf G (lv_sub hl [0, 1] rfl)
  · replace hf := ifp c1 hf
    refine lv_aload_n C.1 C.2.1 dX8_wrong_172 rfl (lv_at hl 0 rfl) ?_
    obtain ⟨r2, S2, eS2, hf⟩ := bnd_e hf
    refine r_cali (As := []) (na := 0) C adM G (mX8_loop_0 l D a cI cJ tk tf S _ eS2) k_933 k_935 k_42 k_68 k_936 (q0 := 0) rfl (ci := 8) rfl (by decide +kernel) ⟨Nat.le_of_ble_eq_true rfl, Nat.le_of_ble_eq_true rfl⟩ rfl rfl ⟨Nat.zero_le _, Nat.zero_le _⟩ rfl hl.1 rfl (Nat.le_of_ble_eq_true rfl) dX8_wrong_173 (fun H locs G => ?_)
    refine lv_if_ge (tgt := 182) C.1 C.2.1 dX8_wrong_176 (by decide) (fun c3 => ?_) (fun c3 => ?_)
    · replace hf := ifp c3 hf
      exact rX8_wrong_0_182 C hr q1 S2 _ _ _ _ hf G (lv_sub hl [0, 1] rfl)
    · replace hf := ifq c3 hf
      refine lv_bipush (v := 9) C.1 C.2.1 dX8_wrong_179 (by decide) ?_
      exact r_iret C hr G hf dX8_wrong_181
set_option maxRecDepth 100000 in
set_option maxHeartbeats 4000000 in
theorem rX8_wrong_0_150 {p : Program} {l : Launch} {e : Env} {s : State} {m : MethodId} {args : Array Value} {below : List Frame} {meth : Method} {c : Code} {D : va_G} {a : Nat → Nat} {cI cJ : ClassId} {tk : Nat} {tf : Nat → Int32} (C : Cx p s m args meth c RX8 cX8_wrong 4 D cI cJ tk tf (AR a 17 s.heap.size)) (hr : meth.sig.returnType = (some .int)) : ∀ (q1 : Int32) (S : St) (x : Int32 × St) (H : Heap) (locs : List Loc) (ls : Array Slot), fX8_wrong_0_150 q1 S = some x → Wd D (wM a cI cJ) (AR a 17 s.heap.size) s S H locs → lv_has ls 4 [(0, .ref (a 0)), (1, .int q1)] → W p l e { frames := 3, cells := 0, slots := 0, locals := 65 } s m args below meth c H locs 0 0 (MQ below (Qi D (wM a cI cJ) (AR a 17 s.heap.size) x) args s 0 0 (AR a 17 s.heap.size)) (F0 m 150 ls []) := by
  intro q1 S x H locs ls hf G hl
  unfold fX8_wrong_0_150 at hf
  refine lv_iload_n C.1 C.2.1 dX8_wrong_150 rfl (lv_at hl 1 rfl) ?_
  refine lv_iconst (v := 3) C.1 C.2.1 dX8_wrong_151 (by decide) ?_
  refine lv_icmp_ne (tgt := 166) C.1 C.2.1 dX8_wrong_152 (by decide) (fun c1 => ?_) (fun c1 => ?_)
  · replace hf := ifq c1 hf
    exact rX8_wrong_0_166 C hr q1 S _ _ _ _ hf G (lv_sub hl [0, 1] rfl)
  · replace hf := ifp c1 hf
    refine lv_aload_n C.1 C.2.1 dX8_wrong_155 rfl (lv_at hl 0 rfl) ?_
    refine lv_iconst (v := 0) C.1 C.2.1 dX8_wrong_156 (by decide) ?_
    obtain ⟨r2, S2, eS2, hf⟩ := bnd_e hf
    refine r_cali (As := [.int (0 : Int32)]) (na := 1) C adM G (mX8_number_0 l D a cI cJ tk tf (0 : Int32) S _ eS2) k_914 k_916 k_38 k_68 k_917 (q0 := 0) rfl (ci := 8) rfl (by decide +kernel) ⟨Nat.le_of_ble_eq_true rfl, Nat.le_of_ble_eq_true rfl⟩ rfl rfl ⟨Nat.zero_le _, Nat.zero_le _⟩ rfl hl.1 rfl (Nat.le_of_ble_eq_true rfl) dX8_wrong_157 (fun H locs G => ?_)
    refine lv_if_ne (tgt := 166) C.1 C.2.1 dX8_wrong_160 (by decide) (fun c3 => ?_) (fun c3 => ?_)
    · replace hf := ifq c3 hf
      exact rX8_wrong_0_166 C hr q1 S2 _ _ _ _ hf G (lv_sub hl [0, 1] rfl)
    · replace hf := ifp c3 hf
      refine lv_bipush (v := 6) C.1 C.2.1 dX8_wrong_163 (by decide) ?_
      exact r_iret C hr G hf dX8_wrong_165
set_option maxRecDepth 100000 in
set_option maxHeartbeats 4000000 in
theorem rX8_wrong_0_129 {p : Program} {l : Launch} {e : Env} {s : State} {m : MethodId} {args : Array Value} {below : List Frame} {meth : Method} {c : Code} {D : va_G} {a : Nat → Nat} {cI cJ : ClassId} {tk : Nat} {tf : Nat → Int32} (C : Cx p s m args meth c RX8 cX8_wrong 4 D cI cJ tk tf (AR a 17 s.heap.size)) (hr : meth.sig.returnType = (some .int)) : ∀ (q1 : Int32) (z0 : Int32) (S : St) (x : Int32 × St) (H : Heap) (locs : List Loc) (ls : Array Slot), fX8_wrong_0_129 q1 z0 S = some x → Wd D (wM a cI cJ) (AR a 17 s.heap.size) s S H locs → lv_has ls 4 [(0, .ref (a 0)), (1, .int q1)] → W p l e { frames := 3, cells := 0, slots := 0, locals := 65 } s m args below meth c H locs 0 0 (MQ below (Qi D (wM a cI cJ) (AR a 17 s.heap.size) x) args s 0 0 (AR a 17 s.heap.size)) (F0 m 129 ls [.int z0]) := by
  intro q1 z0 S x H locs ls hf G hl
  unfold fX8_wrong_0_129 at hf
  refine lv_istore_n (lv' := [(3, .int z0), (0, .ref (a 0)), (1, .int q1)]) C.1 C.2.1 dX8_wrong_129 rfl hl (by decide) rfl (fun ls hl => ?_)
  refine lv_iload_n C.1 C.2.1 dX8_wrong_130 rfl (lv_at hl 0 rfl) ?_
  refine lv_if_eq (tgt := 150) C.1 C.2.1 dX8_wrong_131 (by decide) (fun c1 => ?_) (fun c1 => ?_)
  · replace hf := ifp c1 hf
    exact rX8_wrong_0_150 C hr q1 S _ _ _ _ hf G (lv_sub hl [1, 2] rfl)
  · replace hf := ifq c1 hf
    refine lv_aload_n C.1 C.2.1 dX8_wrong_134 rfl (lv_at hl 1 rfl) ?_
    refine gM_0_7 C G k_765 dX8_wrong_135 ?_
    refine lv_aload_n C.1 C.2.1 dX8_wrong_138 rfl (lv_at hl 1 rfl) ?_
    refine lv_iconst (v := 0) C.1 C.2.1 dX8_wrong_139 (by decide) ?_
    obtain ⟨r2, S2, eS2, hf⟩ := bnd_e hf
    refine r_cali (As := [.int (0 : Int32)]) (na := 1) C adM G (mX8_number_0 l D a cI cJ tk tf (0 : Int32) S _ eS2) k_914 k_916 k_38 k_68 k_917 (q0 := 0) rfl (ci := 8) rfl (by decide +kernel) ⟨Nat.le_of_ble_eq_true rfl, Nat.le_of_ble_eq_true rfl⟩ rfl rfl ⟨Nat.zero_le _, Nat.zero_le _⟩ rfl hl.1 rfl (Nat.le_of_ble_eq_true rfl) dX8_wrong_140 (fun H locs G => ?_)
    obtain ⟨hi3, hf⟩ := ifn hf
    refine aM_6 C G hi3 dX8_wrong_143 ?_
    refine lv_iconst (v := (-1)) C.1 C.2.1 dX8_wrong_144 (by decide) ?_
    refine lv_icmp_ne (tgt := 150) C.1 C.2.1 dX8_wrong_145 (by decide) (fun c4 => ?_) (fun c4 => ?_)
    · replace hf := ifq c4 hf
      exact rX8_wrong_0_150 C hr q1 S2 _ _ _ _ hf G (lv_sub hl [1, 2] rfl)
    · replace hf := ifp c4 hf
      refine lv_iconst (v := 5) C.1 C.2.1 dX8_wrong_148 (by decide) ?_
      exact r_iret C hr G hf dX8_wrong_149
set_option maxRecDepth 100000 in
set_option maxHeartbeats 4000000 in
theorem rX8_wrong_0_124 {p : Program} {l : Launch} {e : Env} {s : State} {m : MethodId} {args : Array Value} {below : List Frame} {meth : Method} {c : Code} {D : va_G} {a : Nat → Nat} {cI cJ : ClassId} {tk : Nat} {tf : Nat → Int32} (C : Cx p s m args meth c RX8 cX8_wrong 4 D cI cJ tk tf (AR a 17 s.heap.size)) (hr : meth.sig.returnType = (some .int)) : ∀ (q1 : Int32) (S : St) (x : Int32 × St) (H : Heap) (locs : List Loc) (ls : Array Slot), fX8_wrong_0_124 q1 S = some x → Wd D (wM a cI cJ) (AR a 17 s.heap.size) s S H locs → lv_has ls 4 [(0, .ref (a 0)), (1, .int q1)] → W p l e { frames := 3, cells := 0, slots := 0, locals := 65 } s m args below meth c H locs 0 0 (MQ below (Qi D (wM a cI cJ) (AR a 17 s.heap.size) x) args s 0 0 (AR a 17 s.heap.size)) (F0 m 124 ls []) := by
  intro q1 S x H locs ls hf G hl
  unfold fX8_wrong_0_124 at hf
  refine lv_iconst (v := 1) C.1 C.2.1 dX8_wrong_124 (by decide) ?_
  refine lv_goto (tgt := 129) C.1 C.2.1 dX8_wrong_125 (by decide) ?_
  exact rX8_wrong_0_129 C hr q1 (1 : Int32) S _ _ _ _ hf G (lv_sub hl [0, 1] rfl)
set_option maxRecDepth 100000 in
set_option maxHeartbeats 4000000 in
theorem rX8_wrong_0_128 {p : Program} {l : Launch} {e : Env} {s : State} {m : MethodId} {args : Array Value} {below : List Frame} {meth : Method} {c : Code} {D : va_G} {a : Nat → Nat} {cI cJ : ClassId} {tk : Nat} {tf : Nat → Int32} (C : Cx p s m args meth c RX8 cX8_wrong 4 D cI cJ tk tf (AR a 17 s.heap.size)) (hr : meth.sig.returnType = (some .int)) : ∀ (q1 : Int32) (S : St) (x : Int32 × St) (H : Heap) (locs : List Loc) (ls : Array Slot), fX8_wrong_0_128 q1 S = some x → Wd D (wM a cI cJ) (AR a 17 s.heap.size) s S H locs → lv_has ls 4 [(0, .ref (a 0)), (1, .int q1)] → W p l e { frames := 3, cells := 0, slots := 0, locals := 65 } s m args below meth c H locs 0 0 (MQ below (Qi D (wM a cI cJ) (AR a 17 s.heap.size) x) args s 0 0 (AR a 17 s.heap.size)) (F0 m 128 ls []) := by
  intro q1 S x H locs ls hf G hl
  unfold fX8_wrong_0_128 at hf
  refine lv_iconst (v := 0) C.1 C.2.1 dX8_wrong_128 (by decide) ?_
  exact rX8_wrong_0_129 C hr q1 (0 : Int32) S _ _ _ _ hf G (lv_sub hl [0, 1] rfl)
set_option maxRecDepth 100000 in
set_option maxHeartbeats 4000000 in
theorem rX8_wrong_0_93 {p : Program} {l : Launch} {e : Env} {s : State} {m : MethodId} {args : Array Value} {below : List Frame} {meth : Method} {c : Code} {D : va_G} {a : Nat → Nat} {cI cJ : ClassId} {tk : Nat} {tf : Nat → Int32} (C : Cx p s m args meth c RX8 cX8_wrong 4 D cI cJ tk tf (AR a 17 s.heap.size)) (hr : meth.sig.returnType = (some .int)) : ∀ (q1 : Int32) (S : St) (x : Int32 × St) (H : Heap) (locs : List Loc) (ls : Array Slot), fX8_wrong_0_93 q1 S = some x → Wd D (wM a cI cJ) (AR a 17 s.heap.size) s S H locs → lv_has ls 4 [(0, .ref (a 0)), (1, .int q1)] → W p l e { frames := 3, cells := 0, slots := 0, locals := 65 } s m args below meth c H locs 0 0 (MQ below (Qi D (wM a cI cJ) (AR a 17 s.heap.size) x) args s 0 0 (AR a 17 s.heap.size)) (F0 m 93 ls []) := by
  intro q1 S x H locs ls hf G hl
  unfold fX8_wrong_0_93 at hf
  refine lv_aload_n C.1 C.2.1 dX8_wrong_93 rfl (lv_at hl 0 rfl) ?_
  refine lv_iload_n C.1 C.2.1 dX8_wrong_94 rfl (lv_at hl 1 rfl) ?_
  obtain ⟨r1, S1, eS1, hf⟩ := bnd_e hf
  refine r_cali (As := [.int q1]) (na := 1) C adM G (mX8_isInRange_0 l D a cI cJ tk tf q1 S _ eS1) k_926 k_928 k_41 k_68 k_929 (q0 := 0) rfl (ci := 8) rfl (by decide +kernel) ⟨Nat.le_of_ble_eq_true rfl, Nat.le_of_ble_eq_true rfl⟩ rfl rfl ⟨Nat.zero_le _, Nat.zero_le _⟩ rfl hl.1 rfl (Nat.le_of_ble_eq_true rfl) dX8_wrong_95 (fun H locs G => ?_)
  refine lv_if_ne (tgt := 103) C.1 C.2.1 dX8_wrong_98 (by decide) (fun c2 => ?_) (fun c2 => ?_)
  · replace hf := ifq c2 hf
    refine lv_iload_n C.1 C.2.1 dX8_wrong_103 rfl (lv_at hl 1 rfl) ?_
    refine lv_bipush (v := 15) C.1 C.2.1 dX8_wrong_104 (by decide) ?_
    refine lv_icmp_eq (tgt := 124) C.1 C.2.1 dX8_wrong_106 (by decide) (fun c3 => ?_) (fun c3 => ?_)
    · replace hf := ifp c3 hf
      exact rX8_wrong_0_124 C hr q1 S1 _ _ _ _ hf G (lv_sub hl [0, 1] rfl)
    · replace hf := ifq c3 hf
      refine lv_iload_n C.1 C.2.1 dX8_wrong_109 rfl (lv_at hl 1 rfl) ?_
      refine lv_bipush (v := 16) C.1 C.2.1 dX8_wrong_110 (by decide) ?_
      refine lv_icmp_ne (tgt := 128) C.1 C.2.1 dX8_wrong_112 (by decide) (fun c4 => ?_) (fun c4 => ?_)
      · replace hf := ifq c4 hf
        exact rX8_wrong_0_128 C hr q1 S1 _ _ _ _ hf G (lv_sub hl [0, 1] rfl)
      · replace hf := ifp c4 hf
        refine lv_aload_n C.1 C.2.1 dX8_wrong_115 rfl (lv_at hl 0 rfl) ?_
        refine lv_iconst (v := 0) C.1 C.2.1 dX8_wrong_116 (by decide) ?_
        obtain ⟨r5, S5, eS5, hf⟩ := bnd_e hf
        refine r_cali (As := [.int (0 : Int32)]) (na := 1) C adM G (mX8_kind_0 l D a cI cJ tk tf (0 : Int32) S1 _ eS5) k_910 k_912 k_37 k_68 k_913 (q0 := 0) rfl (ci := 8) rfl (by decide +kernel) ⟨Nat.le_of_ble_eq_true rfl, Nat.le_of_ble_eq_true rfl⟩ rfl rfl ⟨Nat.zero_le _, Nat.zero_le _⟩ rfl hl.1 rfl (Nat.le_of_ble_eq_true rfl) dX8_wrong_117 (fun H locs G => ?_)
        refine lv_iconst (v := 2) C.1 C.2.1 dX8_wrong_120 (by decide) ?_
        refine lv_icmp_ne (tgt := 128) C.1 C.2.1 dX8_wrong_121 (by decide) (fun c6 => ?_) (fun c6 => ?_)
        · replace hf := ifq c6 hf
          exact rX8_wrong_0_128 C hr q1 S5 _ _ _ _ hf G (lv_sub hl [0, 1] rfl)
        · replace hf := ifp c6 hf
          exact rX8_wrong_0_124 C hr q1 S5 _ _ _ _ hf G (lv_sub hl [0, 1] rfl)
  · replace hf := ifp c2 hf
    refine lv_iconst (v := 4) C.1 C.2.1 dX8_wrong_101 (by decide) ?_
    exact r_iret C hr G hf dX8_wrong_102
set_option maxRecDepth 100000 in
set_option maxHeartbeats 4000000 in
theorem rX8_wrong_0_83 {p : Program} {l : Launch} {e : Env} {s : State} {m : MethodId} {args : Array Value} {below : List Frame} {meth : Method} {c : Code} {D : va_G} {a : Nat → Nat} {cI cJ : ClassId} {tk : Nat} {tf : Nat → Int32} (C : Cx p s m args meth c RX8 cX8_wrong 4 D cI cJ tk tf (AR a 17 s.heap.size)) (hr : meth.sig.returnType = (some .int)) : ∀ (q1 : Int32) (S : St) (x : Int32 × St) (H : Heap) (locs : List Loc) (ls : Array Slot), fX8_wrong_0_83 q1 S = some x → Wd D (wM a cI cJ) (AR a 17 s.heap.size) s S H locs → lv_has ls 4 [(0, .ref (a 0)), (1, .int q1)] → W p l e { frames := 3, cells := 0, slots := 0, locals := 65 } s m args below meth c H locs 0 0 (MQ below (Qi D (wM a cI cJ) (AR a 17 s.heap.size) x) args s 0 0 (AR a 17 s.heap.size)) (F0 m 83 ls []) := by
  intro q1 S x H locs ls hf G hl
  unfold fX8_wrong_0_83 at hf
  refine lv_aload_n C.1 C.2.1 dX8_wrong_83 rfl (lv_at hl 0 rfl) ?_
  obtain ⟨r1, S1, eS1, hf⟩ := bnd_e hf
  refine r_cali (As := []) (na := 0) C adM G (mX8_mark_0 l D a cI cJ tk tf S _ eS1) k_922 k_924 k_40 k_68 k_925 (q0 := 0) rfl (ci := 8) rfl (by decide +kernel) ⟨Nat.le_of_ble_eq_true rfl, Nat.le_of_ble_eq_true rfl⟩ rfl rfl ⟨Nat.zero_le _, Nat.zero_le _⟩ rfl hl.1 rfl (Nat.le_of_ble_eq_true rfl) dX8_wrong_84 (fun H locs G => ?_)
  refine lv_if_ge (tgt := 93) C.1 C.2.1 dX8_wrong_87 (by decide) (fun c2 => ?_) (fun c2 => ?_)
  · replace hf := ifp c2 hf
    exact rX8_wrong_0_93 C hr q1 S1 _ _ _ _ hf G (lv_sub hl [0, 1] rfl)
  · replace hf := ifq c2 hf
    refine lv_bipush (v := 7) C.1 C.2.1 dX8_wrong_90 (by decide) ?_
    exact r_iret C hr G hf dX8_wrong_92
set_option maxRecDepth 100000 in
set_option maxHeartbeats 4000000 in
theorem rX8_wrong_0_61 {p : Program} {l : Launch} {e : Env} {s : State} {m : MethodId} {args : Array Value} {below : List Frame} {meth : Method} {c : Code} {D : va_G} {a : Nat → Nat} {cI cJ : ClassId} {tk : Nat} {tf : Nat → Int32} (C : Cx p s m args meth c RX8 cX8_wrong 4 D cI cJ tk tf (AR a 17 s.heap.size)) (hr : meth.sig.returnType = (some .int)) : ∀ (q1 : Int32) (S : St) (x : Int32 × St) (H : Heap) (locs : List Loc) (ls : Array Slot), fX8_wrong_0_61 q1 S = some x → Wd D (wM a cI cJ) (AR a 17 s.heap.size) s S H locs → lv_has ls 4 [(0, .ref (a 0)), (1, .int q1)] → W p l e { frames := 3, cells := 0, slots := 0, locals := 65 } s m args below meth c H locs 0 0 (MQ below (Qi D (wM a cI cJ) (AR a 17 s.heap.size) x) args s 0 0 (AR a 17 s.heap.size)) (F0 m 61 ls []) := by
  intro q1 S x H locs ls hf G hl
  unfold fX8_wrong_0_61 at hf
  refine lv_aload_n C.1 C.2.1 dX8_wrong_61 rfl (lv_at hl 0 rfl) ?_
  refine lv_iload_n C.1 C.2.1 dX8_wrong_62 rfl (lv_at hl 1 rfl) ?_
  obtain ⟨r1, S1, eS1, hf⟩ := bnd_e hf
  refine r_cali (As := [.int q1]) (na := 1) C adM G (mX8_areKinds_0 l D a cI cJ tk tf q1 S _ eS1) k_918 k_920 k_39 k_68 k_921 (q0 := 0) rfl (ci := 8) rfl (by decide +kernel) ⟨Nat.le_of_ble_eq_true rfl, Nat.le_of_ble_eq_true rfl⟩ rfl rfl ⟨Nat.zero_le _, Nat.zero_le _⟩ rfl hl.1 rfl (Nat.le_of_ble_eq_true rfl) dX8_wrong_63 (fun H locs G => ?_)
  refine lv_if_ne (tgt := 71) C.1 C.2.1 dX8_wrong_66 (by decide) (fun c2 => ?_) (fun c2 => ?_)
  · replace hf := ifq c2 hf
    refine lv_iload_n C.1 C.2.1 dX8_wrong_71 rfl (lv_at hl 1 rfl) ?_
    refine lv_bipush (v := 12) C.1 C.2.1 dX8_wrong_72 (by decide) ?_
    refine lv_icmp_eq (tgt := 83) C.1 C.2.1 dX8_wrong_74 (by decide) (fun c3 => ?_) (fun c3 => ?_)
    · replace hf := ifp c3 hf
      exact rX8_wrong_0_83 C hr q1 S1 _ _ _ _ hf G (lv_sub hl [0, 1] rfl)
    · replace hf := ifq c3 hf
      refine lv_iload_n C.1 C.2.1 dX8_wrong_77 rfl (lv_at hl 1 rfl) ?_
      refine lv_bipush (v := 13) C.1 C.2.1 dX8_wrong_78 (by decide) ?_
      refine lv_icmp_ne (tgt := 93) C.1 C.2.1 dX8_wrong_80 (by decide) (fun c4 => ?_) (fun c4 => ?_)
      · replace hf := ifq c4 hf
        exact rX8_wrong_0_93 C hr q1 S1 _ _ _ _ hf G (lv_sub hl [0, 1] rfl)
      · replace hf := ifp c4 hf
        exact rX8_wrong_0_83 C hr q1 S1 _ _ _ _ hf G (lv_sub hl [0, 1] rfl)
  · replace hf := ifp c2 hf
    refine lv_iconst (v := 3) C.1 C.2.1 dX8_wrong_69 (by decide) ?_
    exact r_iret C hr G hf dX8_wrong_70
set_option maxRecDepth 100000 in
set_option maxHeartbeats 4000000 in
theorem rX8_wrong_0_40 {p : Program} {l : Launch} {e : Env} {s : State} {m : MethodId} {args : Array Value} {below : List Frame} {meth : Method} {c : Code} {D : va_G} {a : Nat → Nat} {cI cJ : ClassId} {tk : Nat} {tf : Nat → Int32} (C : Cx p s m args meth c RX8 cX8_wrong 4 D cI cJ tk tf (AR a 17 s.heap.size)) (hr : meth.sig.returnType = (some .int)) : ∀ (q1 : Int32) (z0 : Int32) (S : St) (x : Int32 × St) (H : Heap) (locs : List Loc) (ls : Array Slot), fX8_wrong_0_40 q1 z0 S = some x → Wd D (wM a cI cJ) (AR a 17 s.heap.size) s S H locs → lv_has ls 4 [(0, .ref (a 0)), (1, .int q1)] → W p l e { frames := 3, cells := 0, slots := 0, locals := 65 } s m args below meth c H locs 0 0 (MQ below (Qi D (wM a cI cJ) (AR a 17 s.heap.size) x) args s 0 0 (AR a 17 s.heap.size)) (F0 m 40 ls [.int z0]) := by
  intro q1 z0 S x H locs ls hf G hl
  unfold fX8_wrong_0_40 at hf
  refine lv_istore_n (lv' := [(2, .int z0), (0, .ref (a 0)), (1, .int q1)]) C.1 C.2.1 dX8_wrong_40 rfl hl (by decide) rfl (fun ls hl => ?_)
  refine lv_iload_n C.1 C.2.1 dX8_wrong_41 rfl (lv_at hl 0 rfl) ?_
  refine lv_if_eq (tgt := 61) C.1 C.2.1 dX8_wrong_42 (by decide) (fun c1 => ?_) (fun c1 => ?_)
  · replace hf := ifp c1 hf
    exact rX8_wrong_0_61 C hr q1 S _ _ _ _ hf G (lv_sub hl [1, 2] rfl)
  · replace hf := ifq c1 hf
    refine lv_aload_n C.1 C.2.1 dX8_wrong_45 rfl (lv_at hl 1 rfl) ?_
    refine lv_iconst (v := 0) C.1 C.2.1 dX8_wrong_46 (by decide) ?_
    obtain ⟨r2, S2, eS2, hf⟩ := bnd_e hf
    refine r_cali (As := [.int (0 : Int32)]) (na := 1) C adM G (mX8_number_0 l D a cI cJ tk tf (0 : Int32) S _ eS2) k_914 k_916 k_38 k_68 k_917 (q0 := 0) rfl (ci := 8) rfl (by decide +kernel) ⟨Nat.le_of_ble_eq_true rfl, Nat.le_of_ble_eq_true rfl⟩ rfl rfl ⟨Nat.zero_le _, Nat.zero_le _⟩ rfl hl.1 rfl (Nat.le_of_ble_eq_true rfl) dX8_wrong_47 (fun H locs G => ?_)
    refine lv_aload_n C.1 C.2.1 dX8_wrong_50 rfl (lv_at hl 1 rfl) ?_
    refine gM_0_6 C G k_764 dX8_wrong_51 ?_
    refine lv_iconst (v := 2) C.1 C.2.1 dX8_wrong_54 (by decide) ?_
    refine lv_isub C.1 C.2.1 dX8_wrong_55 ?_
    refine lv_icmp_le (tgt := 61) C.1 C.2.1 dX8_wrong_56 (by decide) (fun c3 => ?_) (fun c3 => ?_)
    · replace hf := ifp c3 hf
      exact rX8_wrong_0_61 C hr q1 S2 _ _ _ _ hf G (lv_sub hl [1, 2] rfl)
    · replace hf := ifq c3 hf
      refine lv_iconst (v := 1) C.1 C.2.1 dX8_wrong_59 (by decide) ?_
      exact r_iret C hr G hf dX8_wrong_60
set_option maxRecDepth 100000 in
set_option maxHeartbeats 4000000 in
theorem rX8_wrong_0_39 {p : Program} {l : Launch} {e : Env} {s : State} {m : MethodId} {args : Array Value} {below : List Frame} {meth : Method} {c : Code} {D : va_G} {a : Nat → Nat} {cI cJ : ClassId} {tk : Nat} {tf : Nat → Int32} (C : Cx p s m args meth c RX8 cX8_wrong 4 D cI cJ tk tf (AR a 17 s.heap.size)) (hr : meth.sig.returnType = (some .int)) : ∀ (q1 : Int32) (S : St) (x : Int32 × St) (H : Heap) (locs : List Loc) (ls : Array Slot), fX8_wrong_0_39 q1 S = some x → Wd D (wM a cI cJ) (AR a 17 s.heap.size) s S H locs → lv_has ls 4 [(0, .ref (a 0)), (1, .int q1)] → W p l e { frames := 3, cells := 0, slots := 0, locals := 65 } s m args below meth c H locs 0 0 (MQ below (Qi D (wM a cI cJ) (AR a 17 s.heap.size) x) args s 0 0 (AR a 17 s.heap.size)) (F0 m 39 ls []) := by
  intro q1 S x H locs ls hf G hl
  unfold fX8_wrong_0_39 at hf
  refine lv_iconst (v := 0) C.1 C.2.1 dX8_wrong_39 (by decide) ?_
  exact rX8_wrong_0_40 C hr q1 (0 : Int32) S _ _ _ _ hf G (lv_sub hl [0, 1] rfl)
set_option maxRecDepth 100000 in
set_option maxHeartbeats 4000000 in
theorem mX8_wrong_0 (l : Launch) (D : va_G) (a : Nat → Nat) (cI cJ : ClassId) (tk : Nat) (tf : Nat → Int32) (p1 : Int32) (S : St) (x : Int32 × St) (hf : fX8_wrong_0 p1 S = some x) : Mi l D (wM a cI cJ) a 17 cI cJ tk tf yX8_wrong cX8_wrong 4 (some .int) { frames := 3, cells := 0, slots := 0, locals := 65 } [.ref (a 0), .int p1] S x := by
  refine opn_i (by decide +kernel) (Nat.le_of_ble_eq_true rfl) (fun p e s m below meth c C hr G ls hl => ?_)
  replace hl : lv_has ls 4 [(0, .ref (a 0)), (1, .int p1)] := hl
  unfold fX8_wrong_0 at hf
  refine lv_aload_n C.1 C.2.1 dX8_wrong_0 rfl (lv_at hl 0 rfl) ?_
  refine gM_0_6 C G k_764 dX8_wrong_1 ?_
  refine lv_iload_n C.1 C.2.1 dX8_wrong_4 rfl (lv_at hl 1 rfl) ?_
  obtain ⟨r1, S1, eS1, hf⟩ := bnd_e hf
  refine r_cals (As := [.int p1]) (na := 1) C adM G (mX8_takes l D a cI cJ tk tf p1 S _ eS1) k_907 k_908 k_68 k_909 (by decide +kernel) ⟨Nat.le_of_ble_eq_true rfl, Nat.le_of_ble_eq_true rfl⟩ rfl rfl ⟨Nat.zero_le _, Nat.zero_le _⟩ rfl hl.1 rfl (Nat.le_of_ble_eq_true rfl) dX8_wrong_5 (fun H locs G => ?_)
  refine lv_icmp_ge (tgt := 13) C.1 C.2.1 dX8_wrong_8 (by decide) (fun c2 => ?_) (fun c2 => ?_)
  · replace hf := ifp c2 hf
    refine lv_iload_n C.1 C.2.1 dX8_wrong_13 rfl (lv_at hl 1 rfl) ?_
    refine lv_bipush (v := 10) C.1 C.2.1 dX8_wrong_14 (by decide) ?_
    refine lv_icmp_ne (tgt := 39) C.1 C.2.1 dX8_wrong_16 (by decide) (fun c3 => ?_) (fun c3 => ?_)
    · replace hf := ifq c3 hf
      exact rX8_wrong_0_39 C hr p1 S1 _ _ _ _ hf G (lv_sub hl [0, 1] rfl)
    · replace hf := ifp c3 hf
      refine lv_aload_n C.1 C.2.1 dX8_wrong_19 rfl (lv_at hl 0 rfl) ?_
      refine lv_iconst (v := 0) C.1 C.2.1 dX8_wrong_20 (by decide) ?_
      obtain ⟨r4, S4, eS4, hf⟩ := bnd_e hf
      refine r_cali (As := [.int (0 : Int32)]) (na := 1) C adM G (mX8_kind_0 l D a cI cJ tk tf (0 : Int32) S1 _ eS4) k_910 k_912 k_37 k_68 k_913 (q0 := 0) rfl (ci := 8) rfl (by decide +kernel) ⟨Nat.le_of_ble_eq_true rfl, Nat.le_of_ble_eq_true rfl⟩ rfl rfl ⟨Nat.zero_le _, Nat.zero_le _⟩ rfl hl.1 rfl (Nat.le_of_ble_eq_true rfl) dX8_wrong_21 (fun H locs G => ?_)
      refine lv_if_ne (tgt := 39) C.1 C.2.1 dX8_wrong_24 (by decide) (fun c5 => ?_) (fun c5 => ?_)
      · replace hf := ifq c5 hf
        exact rX8_wrong_0_39 C hr p1 S4 _ _ _ _ hf G (lv_sub hl [0, 1] rfl)
      · replace hf := ifp c5 hf
        refine lv_aload_n C.1 C.2.1 dX8_wrong_27 rfl (lv_at hl 0 rfl) ?_
        refine lv_iconst (v := 0) C.1 C.2.1 dX8_wrong_28 (by decide) ?_
        obtain ⟨r6, S6, eS6, hf⟩ := bnd_e hf
        refine r_cali (As := [.int (0 : Int32)]) (na := 1) C adM G (mX8_number_0 l D a cI cJ tk tf (0 : Int32) S4 _ eS6) k_914 k_916 k_38 k_68 k_917 (q0 := 0) rfl (ci := 8) rfl (by decide +kernel) ⟨Nat.le_of_ble_eq_true rfl, Nat.le_of_ble_eq_true rfl⟩ rfl rfl ⟨Nat.zero_le _, Nat.zero_le _⟩ rfl hl.1 rfl (Nat.le_of_ble_eq_true rfl) dX8_wrong_29 (fun H locs G => ?_)
        refine lv_if_lt (tgt := 39) C.1 C.2.1 dX8_wrong_32 (by decide) (fun c7 => ?_) (fun c7 => ?_)
        · replace hf := ifp c7 hf
          exact rX8_wrong_0_39 C hr p1 S6 _ _ _ _ hf G (lv_sub hl [0, 1] rfl)
        · replace hf := ifq c7 hf
          refine lv_iconst (v := 1) C.1 C.2.1 dX8_wrong_35 (by decide) ?_
          refine lv_goto (tgt := 40) C.1 C.2.1 dX8_wrong_36 (by decide) ?_
          exact rX8_wrong_0_40 C hr p1 (1 : Int32) S6 _ _ _ _ hf G (lv_sub hl [0, 1] rfl)
  · replace hf := ifq c2 hf
    refine lv_iconst (v := 1) C.1 C.2.1 dX8_wrong_11 (by decide) ?_
    exact r_iret C hr G hf dX8_wrong_12
